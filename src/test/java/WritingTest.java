/** Promise 14: put, and the waits and rings of put and get. */
public final class WritingTest {
    public static void main(String[] arguments) {
        refusals();
        stamps();
        intents();
        waits();
        rings();
        Script.end("WritingTest");
    }

    private static void refusals() {
        Script.play("wrong transactions, keys and values, and which goes first",
            "put 0 0 0 ! Index; begin 0 1 = 0; put 0 32 0 ! Index; put 0 -1 0 ! Index; put 1 0 0 ! Index; put -1 0 0 ! Index",
            "put 0 0 -1 ! Argument; put 0 0 1001 ! Argument; put 1 0 -1 ! Index; put 0 32 1001 ! Index; put 0 0 0 = DONE",
            "put 0 31 1000 = DONE; put 0 5 999 = DONE; told 0 5 = 3; key 1 1 = NONE; abort 0 = DONE; put 0 0 1001 ! Argument",
            "put 0 0 1 = ENDED");
        Script.play("DOWN if its node, or that of the key, is down, behind ENDED",
            "split 8 = 2; move 1 1 = 0; begin 2 1 = 0; begin 2 1 = 1; down 0 = 0; put 0 0 1 = DOWN; put 0 8 1 = DONE; down 2 = 0",
            "put 0 8 2 = DOWN; put 0 0 1 = DOWN; abort 1 = DONE; put 1 0 1 = ENDED; up 2; put 0 8 3 = DONE; put 0 0 1 = DOWN",
            "put 0 0 1001 ! Argument; up 0; put 0 0 1 = DONE; told 0 5 = 2");
        Script.play("ENDED for one that is STAGED or COMMITTED",
            "begin 0 1 = 0; put 0 1 7 = DONE; commit 0 staged = DONE; put 0 1 8 = ENDED; recover 0 = COMMITTED; put 0 1 8 = ENDED");
        Script.play("the node meets the read stamp, and its clock is asked the first time, not where it is DOWN",
            "skew 1 5 = 0; begin 1 1 = 0; down 0 = 0; put 0 0 1 = DOWN; up 0 = 1; put 0 0 1 = DONE; clock 0 = 52; put 0 1 1 = DONE",
            "clock 0 = 53; get 0 3 = GONE; clock 0 = 54");
    }

    private static void stamps() {
        Script.play("above the latest version, inside the doubt or not",
            "pass 1 = 1; begin 0 1 = 0; begin 0 1 = 1; put 1 1 5 = DONE; commit 1 plain = DONE; told 1 2 = 11; put 0 1 6 = DONE",
            "told 0 2 = 12; told 0 1 = 10; skew 1 5 = 0; begin 1 1 = 2; put 2 2 7 = DONE; told 2 2 = 60; commit 2 plain = DONE",
            "put 0 2 8 = DONE; told 0 2 = 61; put 0 3 8 = DONE; told 0 2 = 61; told 0 1 = 10; commit 0 plain = DONE; key 1 0 = 2");
        Script.play("above the read stamp of the key, but if just it read it so",
            "pass 1 = 1; begin 0 1 = 0; begin 1 1 = 1; told 1 1 = 10; get 0 1 = GONE; put 0 1 5 = DONE; told 0 2 = 10",
            "get 0 2 = GONE; get 1 2 = GONE; key 2 3 = SEVERAL; put 0 2 5 = DONE; told 0 2 = 11; begin 0 1 = 2; get 2 3 = GONE",
            "key 3 2 = 13; get 0 3 = GONE; key 3 2 = 13; key 3 3 = 2; put 0 3 5 = DONE; told 0 2 = 14");
        Script.play("above what a move left, by several",
            "begin 1 1 = 0; move 0 1 = 0; move 0 1 = 1; move 0 1 = 1; key 5 2 = 3; put 0 5 1 = DONE; told 0 2 = 4; told 0 1 = 1");
        Script.play("one that read it so before a RESTART is yet the one that read it",
            "begin 0 1 = 0; begin 0 1 = 1; get 0 7 = GONE; put 1 7 1 = DONE; commit 1 plain = DONE; get 0 8 = GONE; put 0 7 2 = DONE",
            "told 0 2 = 3; commit 0 plain = RESTART; told 0 1 = 3; get 0 7 = 1; key 7 3 = 0; put 0 7 3 = DONE; told 0 2 = 3",
            "commit 0 plain = DONE; order 0 = 1; order 1 = 0; judged = 0");
        Script.play("a later put in place of its own raises the stamp, too",
            "begin 1 1 = 0; put 0 1 1 = DONE; told 0 2 = 1; pass 1 = 1; begin 2 9 = 1; put 1 2 1 = DONE; down 0 = 2; up 0 = 12",
            "put 0 1 2 = DONE; told 0 2 = 13; told 0 5 = 1; get 0 1 = 2");
    }

    private static void intents() {
        Script.play("in place of its own one, and not sure",
            "begin 0 1 = 0; put 0 1 5 = DONE; sync 0 = 1; key 1 6 = 1; put 0 1 6 = DONE; key 1 6 = 0; key 1 1 = 0; told 0 5 = 1",
            "commit 0 plain = DONE; begin 0 1 = 1; get 1 1 = 6; key 1 0 = 1; key 1 6 = 0");
        Script.play("with a greater rank the other one is ABORTED, its intent there gone, its others not",
            "begin 0 1 = 0; put 0 1 5 = DONE; put 0 2 6 = DONE; begin 0 2 = 1; put 1 1 7 = DONE; told 0 0 = ABORTED; key 1 1 = 1",
            "key 2 1 = 0; get 0 1 = ENDED; put 1 2 7 = DONE; key 2 1 = 1; told 0 5 = 2; told 1 5 = 2; commit 1 plain = DONE");
        Script.play("what is STAGED is recovered, whatever the ranks; what is vanished is ABORTED",
            "begin 0 0 = 0; put 0 1 5 = DONE; put 0 2 5 = DONE; commit 0 staged = DONE; begin 0 9 = 1; put 1 1 7 = DONE",
            "told 0 0 = COMMITTED; told 0 2 = 1; told 1 2 = 3; key 2 0 = 1; begin 0 9 = 2; put 2 5 1 = DONE; pass 21 = 21; begin 0 0 = 3",
            "put 3 5 2 = DONE; told 2 0 = ABORTED; told 2 6 = 0; key 5 1 = 3");
        Script.play("also one whose write stamp is above everything, and one that is sure",
            "skew 1 5 = 0; begin 1 1 = 0; put 0 1 5 = DONE; sync 0 = 1; begin 0 1 = 1; told 1 1 = 52; begin 2 1 = 2; told 2 1 = 1",
            "put 2 1 3 = WAITS; told 2 3 = 0; told 2 2 = 1; told 2 5 = 0; key 1 6 = 1; begin 2 2 = 3; put 3 1 3 = DONE; key 1 6 = 0",
            "told 0 0 = ABORTED; told 3 2 = 2");
    }

    private static void waits() {
        Script.play("until it asks for something again",
            "begin 0 1 = 0; begin 0 1 = 1; put 0 1 5 = DONE; put 1 1 6 = WAITS; told 1 3 = 0; told 0 3 = NONE; get 1 9 = GONE",
            "told 1 3 = NONE; get 1 1 = WAITS; told 1 3 = 0; put 1 9 1 = DONE; told 1 3 = NONE; put 1 1 6 = WAITS; commit 1 staged = DONE",
            "told 1 3 = NONE; told 1 0 = STAGED");
        Script.play("commit() ends it by a RESTART, too, get() by its own write",
            "begin 0 1 = 0; begin 0 1 = 1; put 0 1 5 = DONE; put 1 2 1 = DONE; put 1 1 6 = WAITS; get 1 2 = 1; told 1 3 = NONE",
            "put 1 1 6 = WAITS; get 1 7 = GONE; begin 0 1 = 2; put 2 7 1 = DONE; commit 2 plain = DONE; begin 0 1 = 3; get 3 8 = GONE",
            "put 1 1 6 = WAITS; put 1 8 1 = DONE; put 1 1 6 = WAITS; told 1 3 = 0; commit 1 plain = RESTART; told 1 3 = NONE");
        Script.play("not by what is answered DOWN, nor by a call that throws, nor by a beat",
            "split 8 = 2; move 1 1 = 0; begin 2 1 = 0; begin 2 1 = 1; put 0 1 5 = DONE; put 1 9 5 = DONE; sync 1 = 1; put 1 1 6 = WAITS",
            "down 1 = 0; get 1 9 = DOWN; told 1 3 = 0; put 1 9 9 = DOWN; told 1 3 = 0; commit 1 plain = DOWN; told 1 3 = 0",
            "get 1 32 ! Index; put 1 1 1001 ! Argument; beat 1 = DONE; recover 1 = PENDING; told 1 3 = 0; down 2 = 0; get 1 1 = DOWN",
            "commit 1 staged = DOWN; told 1 3 = 0; up 2; get 1 2 = GONE; told 1 3 = NONE");
        Script.play("until that one is PENDING no more: COMMITTED, STAGED, ABORTED",
            "begin 0 1 = 0; begin 0 1 = 1; put 0 1 5 = DONE; put 1 1 6 = WAITS; commit 0 staged = DONE; told 1 3 = NONE; put 1 1 6 = DONE",
            "begin 0 1 = 2; put 2 1 7 = WAITS; told 2 3 = 1; commit 1 plain = DONE; told 2 3 = NONE; put 2 1 7 = DONE",
            "begin 0 1 = 3; get 3 1 = WAITS; told 3 3 = 2; begin 0 2 = 4; put 4 1 8 = DONE; told 3 3 = NONE; told 2 0 = ABORTED");
        Script.play("it goes on waiting though the intent is lost, or that one is vanished, or began anew",
            "begin 1 1 = 0; begin 1 1 = 1; put 0 1 5 = DONE; put 1 1 6 = WAITS; down 0 = 1; told 1 3 = 0; pass 21 = 21; told 1 3 = 0",
            "up 0; told 0 6 = 1; told 1 3 = 0; put 1 1 6 = DONE; told 1 3 = NONE; told 0 0 = PENDING");
        Script.play("one that is RESTARTed is waited for yet",
            "begin 0 1 = 0; begin 0 1 = 1; get 0 7 = GONE; put 0 1 5 = DONE; get 1 1 = WAITS; begin 0 1 = 2; put 2 7 1 = DONE",
            "commit 2 plain = DONE; begin 0 1 = 3; get 3 8 = GONE; put 0 8 1 = DONE; commit 0 plain = RESTART; told 1 3 = 0; get 1 1 = GONE",
            "told 1 3 = NONE");
    }

    private static void rings() {
        Script.play("of two with the same rank the greater number, whoever closes it",
            "begin 0 1 = 0; begin 0 1 = 1; put 0 1 1 = DONE; put 1 2 2 = DONE; put 0 2 3 = WAITS; put 1 1 4 = ENDED; told 1 0 = ABORTED",
            "told 0 0 = PENDING; told 0 3 = NONE; told 1 3 = NONE; key 2 1 = 1; put 0 2 3 = DONE; key 2 1 = 0");
        Script.play("of two with the same rank the greater number, closed by the other one: it goes on",
            "begin 0 1 = 0; begin 0 1 = 1; put 0 1 1 = DONE; put 1 2 2 = DONE; put 1 1 4 = WAITS; put 0 2 3 = DONE; told 1 0 = ABORTED",
            "told 0 3 = NONE; key 2 1 = 0; get 1 1 = ENDED");
        Script.play("closed by a get, which ends or goes on",
            "begin 0 1 = 0; begin 0 1 = 1; put 0 1 1 = DONE; put 1 2 2 = DONE; get 1 1 = WAITS; get 0 2 = GONE; told 1 0 = ABORTED",
            "key 2 1 = NONE; told 0 3 = NONE; told 0 4 = 1; begin 0 1 = 2; put 2 3 1 = DONE; put 0 3 1 = WAITS; get 2 1 = ENDED",
            "told 2 0 = ABORTED; told 2 4 = 0; told 0 3 = NONE; told 0 0 = PENDING");
        Script.play("a greater rank among three: it does not wait",
            "begin 0 2 = 0; begin 0 1 = 1; begin 0 2 = 2; begin 0 9 = 3; put 0 1 1 = DONE; put 1 2 1 = DONE; put 2 3 1 = DONE",
            "get 2 1 = WAITS; told 2 3 = 0; put 1 3 2 = WAITS; told 1 3 = 2; put 0 2 5 = DONE; told 1 0 = ABORTED; told 2 3 = 0",
            "put 0 3 5 = DONE; told 2 0 = ABORTED; told 0 3 = NONE");
        Script.play("three in a ring of one rank: the middle one by its number, and the wait begins anew",
            "begin 0 1 = 0; begin 0 1 = 1; begin 0 1 = 2; put 0 1 1 = DONE; put 1 2 1 = DONE; put 2 3 1 = DONE; put 1 3 2 = WAITS",
            "put 2 1 2 = WAITS; put 0 2 2 = WAITS; told 2 0 = ABORTED; told 0 3 = 1; told 1 3 = NONE; told 0 0 = PENDING",
            "told 1 0 = PENDING; put 1 3 2 = DONE; put 1 1 9 = ENDED; told 1 0 = ABORTED; told 0 0 = PENDING; put 0 2 2 = DONE");
        Script.play("a greater rank does not wait, so it closes no ring",
            "begin 0 1 = 0; begin 0 1 = 1; begin 0 1 = 2; begin 0 0 = 3; put 3 4 1 = DONE; put 0 1 1 = DONE; put 1 2 1 = DONE",
            "get 3 1 = WAITS; told 3 3 = 0; put 0 2 2 = WAITS; put 1 4 2 = DONE; told 3 0 = ABORTED; told 0 3 = 1; told 1 0 = PENDING");
        Script.play("nor does it where others wait for it; a ring is of one rank",
            "begin 0 5 = 0; begin 0 5 = 1; begin 0 3 = 2; put 0 1 1 = DONE; put 1 2 1 = DONE; get 2 1 = WAITS; put 1 3 1 = DONE",
            "get 0 2 = WAITS; told 0 3 = 1; put 2 4 1 = DONE; get 2 2 = WAITS; told 2 3 = 1; put 1 4 2 = DONE; told 2 0 = ABORTED",
            "put 1 1 7 = ENDED; told 1 0 = ABORTED; told 0 0 = PENDING");
        Script.play("a ring by a wait whose intent is lost by now",
            "split 8 = 2; move 1 3 = 0; begin 1 1 = 0; begin 1 1 = 1; put 0 1 1 = DONE; put 1 9 1 = DONE; put 0 9 2 = WAITS; down 3 = 1",
            "told 0 3 = 1; put 1 1 2 = ENDED; told 1 0 = ABORTED; told 0 3 = NONE");
        Script.play("waits without a ring stay",
            "begin 0 1 = 0; begin 0 1 = 1; begin 0 1 = 2; put 0 1 1 = DONE; put 1 2 1 = DONE; put 1 1 2 = WAITS; put 2 2 2 = WAITS",
            "told 1 3 = 0; told 2 3 = 1; told 0 3 = NONE; commit 0 plain = DONE; told 1 3 = NONE; told 2 3 = 1; put 1 1 2 = DONE");
    }
}
