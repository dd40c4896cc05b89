/** Promise 13: get. */
public final class ReadingTest {
    public static void main(String[] arguments) {
        values();
        refusals();
        nodesAsked();
        doubts();
        refreshing();
        restarts();
        intents();
        readStamps();
        Script.end("ReadingTest");
    }

    private static void values() {
        Script.play("a value, GONE without one, and its own write",
            "begin 0 1 = 0; get 0 1 = GONE; told 0 4 = 1; put 0 1 7 = DONE; get 0 1 = 7; put 0 2 GONE = DONE; get 0 2 = GONE",
            "told 0 4 = 1; put 0 3 0 = DONE; get 0 3 = 0; put 0 4 999 = DONE; commit 0 plain = DONE; begin 0 1 = 1",
            "get 1 1 = 7; get 1 2 = GONE; get 1 3 = 0; get 1 4 = 999; told 1 4 = 4; get 1 1 = 7; told 1 4 = 4");
        Script.play("the latest version that is not above the read stamp",
            "begin 0 1 = 0; put 0 1 7 = DONE; commit 0 plain = DONE; begin 0 1 = 1; get 1 9 = GONE; pass 20 = 20; begin 0 1 = 2",
            "put 2 1 8 = DONE; commit 2 plain = DONE; get 1 1 = 7; begin 0 1 = 3; get 3 1 = 8; put 3 1 GONE = DONE",
            "commit 3 plain = DONE; begin 0 1 = 4; get 4 1 = GONE; key 1 0 = 3; get 1 1 = 7");
        Script.play("its own write is not read: neither told nor a read stamp",
            "begin 0 1 = 0; put 0 1 7 = DONE; get 0 1 = 7; told 0 4 = 0; key 1 2 = 0; key 1 3 = NONE");
        Script.play("its own write, though its intent is lost and another one's is there",
            "begin 1 1 = 0; put 0 1 7 = DONE; down 0 = 1; up 0 = 3; get 0 1 = 7; begin 1 1 = 1; put 1 1 8 = DONE",
            "get 0 1 = 7; told 0 3 = NONE; told 0 4 = 0; told 0 5 = 1; commit 0 plain = ENDED; told 0 0 = ABORTED; key 1 1 = 1");
    }

    private static void refusals() {
        Script.play("wrong transactions and keys",
            "get 0 0 ! Index; begin 0 1 = 0; get 0 -1 ! Index; get 0 32 ! Index; get 1 0 ! Index; get -1 0 ! Index",
            "get 0 0 = GONE; get 0 31 = GONE; told 0 4 = 2; abort 0 = DONE; get 0 32 ! Index; get 0 0 = ENDED");
        Script.play("DOWN if its node, or that of the key, is down, behind ENDED",
            "split 8 = 2; move 1 1 = 0; begin 2 1 = 0; begin 2 1 = 1; down 0 = 0; get 0 0 = DOWN; get 0 8 = GONE; down 2 = 0",
            "get 0 8 = DOWN; get 0 0 = DOWN; abort 1 = DONE; get 1 0 = ENDED; up 2; get 0 8 = GONE; get 0 0 = DOWN; up 0; get 0 0 = GONE");
        Script.play("DOWN asks nothing",
            "skew 1 5 = 0; begin 1 1 = 0; down 0 = 0; get 0 0 = DOWN; up 0 = 1; get 0 0 = GONE; clock 0 = 52");
        Script.play("ENDED for one that is STAGED",
            "begin 0 1 = 0; put 0 1 7 = DONE; commit 0 staged = DONE; get 0 1 = ENDED; clock 0 = 3");
    }

    private static void nodesAsked() {
        Script.play("the node meets the read stamp each time, and its clock is asked the first time",
            "pass 1 = 1; begin 0 1 = 0; clock 0 = 11; get 0 1 = GONE; clock 0 = 13; get 0 2 = GONE; clock 0 = 14");
        Script.play("also for a key that it writes itself, on a node that it didn't ask before",
            "skew 1 5 = 0; begin 1 1 = 0; put 0 1 1 = DONE; move 0 2 = 0; get 0 1 = 1; clock 2 = 52; get 0 1 = 1; clock 2 = 53");
        Script.play("the node meets the read stamp of the beginning of the call, just that",
            "skew 1 5 = 0; split 16 = 2; move 1 3 = 0; begin 1 1 = 0; put 0 20 1 = DONE; commit 0 plain = DONE",
            "begin 2 1 = 1; told 1 1 = 1; skew 1 0 = 5; get 1 20 = 1; told 1 1 = 50; clock 3 = 53; clock 0 = 2; get 1 1 = GONE; clock 0 = 52");
        Script.play("so it does where the call waits, and where it ends by a ring",
            "skew 1 5 = 0; split 8 = 2; move 1 2 = 0; begin 0 1 = 0; begin 1 1 = 1; put 0 1 1 = DONE; put 1 9 1 = DONE; clock 2 = 52",
            "clock 0 = 4; put 0 9 1 = WAITS; clock 2 = 54; put 1 1 1 = ENDED; clock 0 = 52");
    }

    private static void doubts() {
        Script.play("a version inside the doubt raises both stamps",
            "skew 1 5 = 0; pass 10 = 10; begin 1 0 = 0; put 0 3 77 = DONE; commit 0 plain = DONE; begin 2 0 = 1; told 1 1 = 100",
            "get 1 3 = 77; told 1 1 = 150; told 1 2 = 150; key 3 2 = 150; key 3 3 = 1; commit 1 plain = DONE; order 0 = 0; order 1 = 1");
        Script.play("a version above the doubt there doesn't",
            "skew 1 5 = 0; pass 10 = 10; begin 2 0 = 0; get 0 5 = GONE; begin 1 0 = 1; put 1 3 77 = DONE; commit 1 plain = DONE",
            "get 0 3 = GONE; told 0 1 = 100; key 3 2 = 100; commit 0 plain = DONE; order 0 = 0; order 1 = 1; judged = 0");
        Script.play("the doubt there goes up to what the clock told, that included",
            "skew 1 1 = 0; split 16 = 2; begin 2 0 = 0; get 0 5 = GONE; clock 0 = 3; begin 0 0 = 1; told 1 1 = 4; begin 1 0 = 2",
            "put 2 3 7 = DONE; told 2 2 = 10; commit 2 plain = DONE; begin 2 0 = 3; told 3 1 = 2; get 3 3 = 7; told 3 1 = 10");
        Script.play("the latest version inside the doubt at once",
            "pass 1 = 1; begin 0 0 = 0; begin 0 0 = 1; begin 0 0 = 2; put 0 3 1 = DONE; commit 0 plain = DONE; put 1 3 2 = DONE",
            "commit 1 plain = DONE; put 2 3 3 = DONE; commit 2 plain = DONE; skew 1 -1 = 0; begin 1 0 = 3; told 3 1 = 1; get 3 3 = 3",
            "told 3 1 = 12; key 3 2 = 12");
        Script.play("each node has its own doubt, and it stays behind a RESTART",
            "skew 1 5 = 0; split 16 = 2; move 1 3 = 0; pass 10 = 10; begin 2 0 = 0; get 0 1 = GONE; begin 1 0 = 1",
            "put 1 1 7 = DONE; put 1 20 8 = DONE; commit 1 plain = DONE; begin 1 0 = 2; put 2 2 9 = DONE; commit 2 plain = DONE",
            "get 0 20 = RESTART; told 0 0 = PENDING; told 0 1 = 150; told 0 2 = 150; told 0 4 = 0; get 0 1 = 7; get 0 20 = 8",
            "get 0 2 = GONE; told 0 1 = 150");
    }

    private static void refreshing() {
        Script.play("reads are refreshed: their keys are read so, too",
            "skew 1 5 = 0; split 16 = 2; move 1 3 = 0; pass 10 = 10; begin 2 0 = 0; get 0 1 = GONE; get 0 2 = GONE; begin 2 0 = 1",
            "get 1 2 = GONE; key 2 2 = 101; begin 1 0 = 2; put 2 20 8 = DONE; commit 2 plain = DONE; get 0 20 = 8; told 0 1 = 150",
            "key 1 2 = 150; key 1 3 = 0; key 2 2 = 150; key 2 3 = 0; key 20 2 = 150; key 20 3 = 0; key 3 2 = 0; told 0 4 = 3",
            "get 1 20 = 8; key 2 2 = 150; key 2 3 = SEVERAL; key 1 3 = 0; key 20 3 = SEVERAL");
        Script.play("a refresh asks no clock and no node meets by it",
            "skew 1 5 = 0; split 16 = 2; move 1 3 = 0; pass 10 = 10; begin 2 0 = 0; get 0 1 = GONE; clock 0 = 102; begin 1 0 = 1",
            "put 1 20 8 = DONE; commit 1 plain = DONE; get 0 20 = 8; key 1 2 = 150; clock 0 = 103");
        Script.play("a read key whose node is down cannot be refreshed",
            "skew 1 5 = 0; split 16 = 2; move 1 3 = 0; pass 10 = 10; begin 2 0 = 0; get 0 1 = GONE; begin 1 0 = 1; put 1 20 8 = DONE",
            "commit 1 plain = DONE; down 0 = 0; get 0 20 = RESTART; told 0 1 = 150; key 1 2 = 100; get 0 20 = 8");
        Script.play("nor one with an intent in the way up to that stamp; one above it is not looked at",
            "skew 1 5 = 0; split 16 = 2; move 1 3 = 0; pass 10 = 10; begin 2 0 = 0; get 0 1 = GONE; get 0 2 = GONE; begin 1 0 = 1",
            "put 1 20 8 = DONE; commit 1 plain = DONE; begin 1 9 = 2; told 2 2 = 151; put 2 1 5 = DONE; get 0 20 = 8; told 0 1 = 150",
            "told 2 0 = PENDING; key 1 2 = 150; told 0 3 = NONE");
        Script.play("nor one with an intent in the way at that stamp, whatever the ranks",
            "skew 1 5 = 0; skew 3 5 = 0; split 16 = 2; pass 10 = 10; begin 2 9 = 0; get 0 1 = GONE; move 1 2 = 0; begin 1 0 = 1",
            "put 1 20 8 = DONE; commit 1 plain = DONE; begin 3 0 = 2; told 2 2 = 150; put 2 1 5 = DONE; get 0 20 = RESTART",
            "told 2 0 = PENDING; told 2 2 = 150; told 0 3 = NONE; key 1 1 = 2");
        Script.play("one that is vanished is ABORTED by that, and its intent gone",
            "skew 1 5 = 0; split 16 = 2; move 1 3 = 0; begin 2 0 = 0; get 0 1 = GONE; begin 2 9 = 1; put 1 1 5 = DONE; pass 21 = 21",
            "beat 0 = DONE; skew 1 -5 = 5; begin 1 0 = 2; told 2 1 = 160; skew 1 -5 = -5; told 0 1 = 1; put 2 20 8 = DONE",
            "commit 2 plain = DONE; get 0 20 = GONE; told 0 1 = 1; told 1 0 = PENDING");
        Script.play("one that is vanished is ABORTED by a commit's refresh",
            "begin 2 0 = 0; get 0 1 = GONE; begin 2 9 = 1; put 1 1 5 = DONE; pass 21 = 21; put 0 2 6 = DONE; commit 0 plain = DONE",
            "told 0 2 = 61; told 1 0 = ABORTED; key 1 1 = NONE; key 1 2 = 61; key 1 3 = 0");
        Script.play("one that is STAGED is recovered by that, and may leave a version there",
            "pass 20 = 20; begin 2 0 = 0; get 0 1 = GONE; get 0 3 = GONE; begin 2 9 = 1; put 1 1 5 = DONE; commit 1 staged = DONE",
            "put 0 2 6 = DONE; pass 20 = 40; begin 0 0 = 2; put 2 3 4 = DONE; commit 2 staged = DONE; commit 0 plain = RESTART",
            "told 1 0 = COMMITTED; told 0 1 = 251; told 2 0 = STAGED; key 2 1 = NONE; get 0 1 = 5");
        Script.play("keys are looked at by rising numbers, up to the first for which it cannot be done",
            "pass 20 = 20; begin 2 0 = 0; get 0 5 = GONE; get 0 3 = GONE; get 0 1 = GONE; begin 2 0 = 1; put 1 1 5 = DONE",
            "commit 1 staged = DONE; begin 2 0 = 2; split 3 = 2; move 1 1 = 0; begin 2 0 = 3; put 3 5 1 = DONE; commit 3 staged = DONE",
            "down 1 = 1; up 1; begin 2 0 = 4; put 4 3 1 = DONE; begin 2 0 = 5; put 5 5 1 = DONE; told 3 0 = STAGED",
            "put 0 2 1 = DONE; pass 20 = 40; commit 0 plain = RESTART; told 1 0 = COMMITTED; told 4 0 = PENDING");
    }

    private static void restarts() {
        Script.play("behind a RESTART the read stamp is that of the version",
            "skew 1 5 = 0; split 16 = 2; move 1 3 = 0; pass 10 = 10; begin 2 0 = 0; get 0 1 = GONE; put 0 2 6 = DONE; put 0 25 6 = DONE",
            "begin 1 0 = 1; put 1 1 7 = DONE; put 1 20 8 = DONE; commit 1 plain = DONE; told 0 5 = 2; get 0 20 = GONE",
            "told 0 1 = 100; key 2 1 = 0; key 25 1 = 0");
        Script.play("all its intents are gone, it has read and written nothing",
            "skew 1 5 = 0; split 16 = 2; move 1 3 = 0; pass 10 = 10; begin 2 0 = 0; get 0 1 = GONE; put 0 2 6 = DONE; sync 0 = 1",
            "begin 1 0 = 1; put 1 1 7 = DONE; put 1 20 8 = DONE; commit 1 plain = DONE; get 0 20 = RESTART; told 0 0 = PENDING",
            "told 0 1 = 150; told 0 2 = 150; told 0 4 = 0; told 0 5 = 0; key 2 1 = NONE; key 2 6 = 0; get 0 2 = GONE; told 0 4 = 1");
        Script.play("or the write stamp, if that is greater; the doubt stays",
            "skew 1 5 = 0; skew 3 5 = 0; split 16 = 2; move 1 3 = 0; pass 10 = 10; begin 2 0 = 0; get 0 1 = GONE; begin 1 0 = 1",
            "put 1 1 7 = DONE; put 1 20 8 = DONE; commit 1 plain = DONE; begin 3 0 = 2; told 2 1 = 152; get 2 4 = GONE; put 0 4 5 = DONE",
            "told 0 2 = 153; begin 1 0 = 3; told 3 1 = 151; get 0 20 = RESTART; told 0 1 = 153; told 0 2 = 153; key 4 1 = NONE",
            "get 0 1 = 7; told 0 1 = 153; get 0 20 = 8; told 0 1 = 153");
        Script.play("a key that it has read itself, with a version inside the doubt by now",
            "skew 1 5 = 0; split 16 = 2; pass 10 = 10; clock 0 = 100; begin 2 0 = 0; begin 1 0 = 1; get 1 2 = GONE; get 0 1 = GONE",
            "begin 3 0 = 2; told 2 1 = 100; put 2 1 5 = DONE; told 2 2 = 101; commit 2 plain = DONE; get 0 1 = RESTART; told 0 1 = 101",
            "get 0 1 = 5");
    }

    private static void intents() {
        Script.play("waits for an intent up to the doubt there, with the same rank or a lower one",
            "begin 0 1 = 0; put 0 1 7 = DONE; begin 1 1 = 1; begin 1 0 = 2; get 1 1 = WAITS; told 1 3 = 0; get 2 1 = WAITS; told 2 3 = 0",
            "told 1 4 = 0; key 1 2 = 0; told 0 2 = 1; told 0 0 = PENDING");
        Script.play("pushes it with a greater rank, above the greater one of the read stamp and the doubt there",
            "begin 0 1 = 0; put 0 1 7 = DONE; pass 1 = 1; begin 0 2 = 1; told 1 1 = 10; get 1 1 = GONE; told 0 2 = 12; told 0 1 = 1",
            "key 1 2 = 10; key 1 3 = 1; commit 0 plain = DONE; key 1 0 = 1; get 1 1 = GONE; asOf 1 0 = GONE");
        Script.play("one above the doubt there is not in its way",
            "pass 1 = 1; begin 0 1 = 0; get 0 2 = GONE; skew 1 5 = 0; begin 1 5 = 1; told 1 1 = 60; put 1 1 7 = DONE; get 0 1 = GONE",
            "told 0 3 = NONE; told 1 2 = 60; commit 1 plain = DONE; get 0 1 = GONE");
        Script.play("one at the doubt there is, and one at the read stamp is, too",
            "pass 1 = 1; begin 0 1 = 0; get 0 2 = GONE; begin 1 1 = 1; told 1 1 = 10; begin 1 1 = 2; told 2 1 = 11; put 1 1 7 = DONE",
            "put 2 3 7 = DONE; get 0 1 = WAITS; told 0 3 = 1; get 0 3 = WAITS; told 0 3 = 2");
        Script.play("above a doubt that is lower, the read stamp counts",
            "skew 1 5 = 0; split 16 = 2; move 1 3 = 0; pass 10 = 10; begin 2 5 = 0; get 0 1 = GONE; begin 1 0 = 1; put 1 2 4 = DONE",
            "begin 1 0 = 2; put 2 20 8 = DONE; commit 2 plain = DONE; told 1 2 = 150; get 0 20 = 8; told 0 1 = 151",
            "get 0 2 = GONE; told 1 2 = 152; told 0 1 = 151");
        Script.play("what it meets: STAGED is recovered, vanished and ABORTED ones are gone",
            "begin 0 5 = 0; put 0 1 7 = DONE; commit 0 staged = DONE; begin 0 0 = 1; get 1 1 = 7; told 0 0 = COMMITTED; key 1 1 = NONE",
            "begin 0 9 = 2; put 2 2 7 = DONE; put 2 3 7 = DONE; abort 2 = DONE; get 1 2 = GONE; key 2 1 = NONE; key 3 1 = 2",
            "begin 0 9 = 3; put 3 4 7 = DONE; pass 20 = 20; beat 1 = DONE; get 1 4 = GONE; told 3 0 = PENDING; told 1 4 = 3",
            "pass 1 = 21; get 1 4 = GONE; told 3 0 = ABORTED; key 4 1 = NONE; commit 3 plain = ENDED");
        Script.play("STAGED without all its intents is ABORTED when it is met",
            "split 8 = 2; move 1 1 = 0; begin 0 5 = 0; put 0 1 7 = DONE; put 0 9 7 = DONE; commit 0 staged = DONE; down 1 = 1",
            "begin 0 0 = 1; get 1 1 = GONE; told 0 0 = ABORTED; key 1 1 = NONE");
        Script.play("an intent is met though it is above the doubt",
            "skew 1 5 = 0; begin 0 1 = 0; get 0 2 = GONE; begin 1 5 = 1; put 1 1 7 = DONE; commit 1 staged = DONE; get 0 1 = GONE",
            "told 1 0 = COMMITTED; key 1 1 = NONE; key 1 0 = 1");
    }

    private static void readStamps() {
        Script.play("by it, if it is greater; by several, if it is the same, and another one's",
            "begin 1 1 = 0; begin 2 1 = 1; begin 3 1 = 2; begin 1 1 = 3; told 0 1 = 1; told 1 1 = 1; told 2 1 = 1; told 3 1 = 2",
            "get 0 1 = GONE; key 1 2 = 1; key 1 3 = 0; get 0 1 = GONE; key 1 3 = 0; get 1 1 = GONE; key 1 3 = SEVERAL; get 0 1 = GONE",
            "key 1 3 = SEVERAL; key 1 2 = 1; get 3 1 = GONE; key 1 2 = 2; key 1 3 = 3; get 2 1 = GONE; key 1 2 = 2; key 1 3 = 3");
        Script.play("not where it waits",
            "begin 1 1 = 0; put 0 1 5 = DONE; begin 2 1 = 1; get 1 1 = WAITS; key 1 2 = 0; key 1 3 = NONE; told 1 4 = 0");
    }
}
