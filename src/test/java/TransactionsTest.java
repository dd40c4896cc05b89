/** Promises 12 and 16 to 18: begin, abort, recover, beat. */
public final class TransactionsTest {
    public static void main(String[] arguments) {
        beginning();
        aborting();
        recovering();
        beating();
        Script.end("TransactionsTest");
    }

    private static void beginning() {
        Script.play("promise 12: both stamps are what the clock of its node tells",
            "pass 3 = 3; begin 2 5 = 0; told 0 0 = PENDING; told 0 1 = 30; told 0 2 = 30; told 0 3 = NONE; told 0 4 = 0",
            "told 0 5 = 0; told 0 6 = 0; begin 2 5 = 1; told 1 1 = 31; begin 3 0 = 2; told 2 1 = 30; clock 2 = 32");
        Script.play("promise 12: exceptions, and which goes first",
            "begin 4 0 ! Index; begin -1 0 ! Index; begin 0 10 ! Argument; begin 0 -1 ! Argument; begin 4 10 ! Index",
            "down 0 = 0; begin 0 0 ! State; begin 0 10 ! Argument; begin 4 0 ! Index; begin 1 9 = 0; begin 1 0 = 1; told 0 1 = 1");
        Script.play("promise 12: at most 40 ever",
            "repeat 39 begin 0 0; begin 1 0 = 39; clock 1 = 2; begin 1 0 ! State; begin 1 10 ! Argument; begin 4 0 ! Index",
            "clock 1 = 3; told 39 0 = PENDING; told 40 0 ! Index; abort 0 = DONE; begin 0 0 ! State");
        Script.play("promise 12: the doubt goes up to its stamp and 100",
            "skew 0 5 = 0; skew 1 -5 = 0; pass 10 = 10; begin 1 0 = 0; told 0 1 = 50; begin 0 0 = 1; told 1 1 = 150",
            "begin 0 0 = 2; put 1 3 1 = DONE; put 2 4 2 = DONE; commit 1 plain = DONE; commit 2 plain = DONE",
            "get 0 4 = GONE; told 0 1 = 50; get 0 3 = 1; told 0 1 = 150");
    }

    private static void aborting() {
        Script.play("promise 16: its intents stay until they are met, and what it did is told yet",
            "begin 0 1 = 0; put 0 1 5 = DONE; put 0 2 6 = DONE; get 0 3 = GONE; abort 0 = DONE; told 0 0 = ABORTED",
            "key 1 1 = 0; key 2 1 = 0; told 0 4 = 1; told 0 5 = 2; abort 0 = ENDED; get 0 1 = ENDED; put 0 1 1 = ENDED",
            "commit 0 plain = ENDED; beat 0 = ENDED; recover 0 = ABORTED; begin 0 0 = 1; get 1 1 = GONE; key 1 1 = NONE",
            "key 2 1 = 0; put 1 2 8 = DONE; key 2 1 = 1; order 0 = NONE");
        Script.play("promise 16: whatever node is down",
            "begin 0 1 = 0; begin 1 1 = 1; put 1 1 1 = DONE; down 0 = 1; abort 0 = DONE; abort 1 = DONE; told 1 0 = ABORTED",
            "get 1 1 = ENDED; commit 1 plain = ENDED");
        Script.play("promise 16: one that is STAGED or COMMITTED has ended",
            "begin 0 1 = 0; put 0 1 1 = DONE; commit 0 staged = DONE; abort 0 = ENDED; told 0 0 = STAGED; recover 0 = COMMITTED",
            "abort 0 = ENDED; told 0 0 = COMMITTED; abort 1 ! Index; abort -1 ! Index");
        Script.play("promise 16: one that is vanished is not met by that",
            "begin 0 1 = 0; pass 30 = 30; told 0 6 = 1; abort 0 = DONE; told 0 6 = 0; told 0 0 = ABORTED");
        Script.play("promise 16: those that wait for it wait no more, nor does it",
            "begin 0 1 = 0; begin 0 1 = 1; put 0 1 1 = DONE; put 1 2 2 = DONE; put 1 1 2 = WAITS; told 1 3 = 0; abort 0 = DONE",
            "told 1 3 = NONE; begin 0 1 = 2; put 2 2 2 = WAITS; told 2 3 = 1; abort 2 = DONE; told 2 3 = NONE");
    }

    private static void recovering() {
        Script.play("promise 17: COMMITTED if all its writes have their intents yet",
            "begin 0 1 = 0; put 0 1 5 = DONE; put 0 2 6 = DONE; commit 0 staged = DONE; told 0 0 = STAGED; key 1 0 = 0",
            "recover 0 = COMMITTED; told 0 0 = COMMITTED; key 1 0 = 1; key 2 0 = 1; key 1 1 = NONE; key 2 1 = NONE; order 0 = 0",
            "recover 0 = COMMITTED; key 1 0 = 1; order 1 = NONE");
        Script.play("promise 17: otherwise ABORTED, and no intent is met",
            "split 8 = 2; move 1 1 = 0; begin 0 1 = 0; put 0 1 5 = DONE; put 0 9 6 = DONE; commit 0 staged = DONE; down 1 = 1",
            "recover 0 = ABORTED; told 0 0 = ABORTED; key 1 1 = 0; key 1 0 = 0; order 0 = NONE; recover 0 = ABORTED");
        Script.play("promise 17: intents that are sure outlast their node, which may be down yet",
            "split 8 = 2; move 1 1 = 0; begin 0 1 = 0; put 0 1 5 = DONE; put 0 9 6 = DONE; commit 0 staged = DONE; sync 1 = 1",
            "down 1 = 0; down 0 = 1; recover 0 = ABORTED; key 9 1 = 0");
        Script.play("promise 17: nodes that are down don't keep it from being COMMITTED",
            "split 8 = 2; move 1 1 = 0; begin 0 1 = 0; put 0 1 5 = DONE; put 0 9 6 = DONE; commit 0 staged = DONE; sync 1 = 1",
            "sync 0 = 1; down 1 = 0; down 0 = 0; recover 0 = COMMITTED; key 9 1 = NONE; key 9 0 = 1; key 1 0 = 1");
        Script.play("promise 17: one that is PENDING stays so, vanished or not",
            "begin 0 1 = 0; put 0 1 5 = DONE; recover 0 = PENDING; pass 30 = 30; recover 0 = PENDING; told 0 0 = PENDING",
            "commit 0 plain = DONE; recover 0 = COMMITTED; recover 1 ! Index; recover -1 ! Index");
    }

    private static void beating() {
        Script.play("promise 18: alive up to 20 ticks behind its beginning, or its latest beat, that included",
            "pass 5 = 5; begin 0 1 = 0; pass 20 = 25; told 0 6 = 0; pass 1 = 26; told 0 6 = 1; beat 0 = DONE; told 0 6 = 0",
            "pass 20 = 46; told 0 6 = 0; beat 0 = DONE; pass 20 = 66; told 0 6 = 0; pass 1 = 67; told 0 6 = 1");
        Script.play("promise 18: just a beat counts",
            "begin 0 1 = 0; put 0 1 1 = DONE; pass 20 = 20; get 0 2 = GONE; put 0 1 2 = DONE; pass 1 = 21; told 0 6 = 1; get 0 1 = 2",
            "told 0 6 = 1; told 0 0 = PENDING; commit 0 staged = DONE; told 0 6 = 1; recover 0 = COMMITTED; told 0 6 = 0");
        Script.play("promise 18: whatever node is down; ENDED",
            "begin 0 1 = 0; put 0 1 1 = DONE; down 0 = 1; beat 0 = DONE; up 0 = 3; begin 1 1 = 1; put 1 2 1 = DONE",
            "commit 1 staged = DONE; beat 1 = ENDED; recover 1 = COMMITTED; beat 1 = ENDED; abort 0 = DONE; beat 0 = ENDED",
            "beat 2 ! Index; beat -1 ! Index");
        Script.play("promise 18: one that beats in time is not ABORTED when it is met",
            "begin 0 1 = 0; put 0 1 1 = DONE; pass 15 = 15; beat 0 = DONE; pass 20 = 35; begin 0 1 = 1; put 1 1 2 = WAITS",
            "pass 1 = 36; told 1 3 = 0; put 1 1 2 = DONE; told 0 0 = ABORTED; told 1 3 = NONE");
    }
}
