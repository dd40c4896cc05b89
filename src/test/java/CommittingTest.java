/** Promise 15: commit. */
public final class CommittingTest {
    public static void main(String[] arguments) {
        refusals();
        plainly();
        staged();
        refreshing();
        lostIntents();
        closedStamps();
        Script.end("CommittingTest");
    }

    private static void refusals() {
        Script.play("wrong transactions",
            "commit 0 plain ! Index; begin 0 1 = 0; commit 1 plain ! Index; commit -1 staged ! Index; commit 0 plain = DONE");
        Script.play("ENDED, ahead of DOWN",
            "begin 0 1 = 0; commit 0 plain = DONE; commit 0 plain = ENDED; begin 0 1 = 1; put 1 1 1 = DONE; commit 1 staged = DONE",
            "commit 1 plain = ENDED; commit 1 staged = ENDED; told 1 0 = STAGED; begin 0 1 = 2; abort 2 = DONE; commit 2 plain = ENDED",
            "down 0 = 1; commit 0 plain = ENDED; commit 1 plain = ENDED; commit 2 staged = ENDED");
        Script.play("DOWN if its node is down, or that of one of its writes, ahead of all",
            "split 8 = 2; move 1 1 = 0; begin 2 1 = 0; put 0 0 1 = DONE; put 0 9 1 = DONE; pass 20 = 20; down 1 = 1; commit 0 plain = DOWN",
            "told 0 2 = 2; told 0 0 = PENDING; up 1; down 2 = 0; commit 0 staged = DOWN; told 0 2 = 2; up 2; commit 0 plain = ENDED");
        Script.play("the node of a key that it has just read may be down, if nothing is refreshed",
            "split 8 = 2; move 1 1 = 0; begin 2 1 = 0; get 0 0 = GONE; put 0 9 1 = DONE; told 0 1 = 1; told 0 2 = 2; down 0 = 0",
            "begin 2 1 = 1; get 1 9 = WAITS; begin 1 1 = 2; commit 2 plain = DONE; commit 0 plain = RESTART; told 0 1 = 2; key 9 1 = NONE",
            "put 0 9 1 = DONE; get 0 0 = DOWN; commit 0 plain = DONE; order 0 = 0; order 1 = 2");
        Script.play("also that of the first key",
            "split 1 = 2; move 1 1 = 0; begin 2 1 = 0; put 0 0 1 = DONE; sync 0 = 1; down 0 = 0; commit 0 plain = DOWN; up 0; commit 0 plain = DONE");
        Script.play("without a refresh it is not looked at",
            "split 8 = 2; move 1 1 = 0; begin 2 1 = 0; begin 2 1 = 1; get 1 0 = GONE; put 1 9 1 = DONE; told 1 2 = 2; told 1 1 = 2",
            "down 0 = 0; commit 1 plain = DONE");
    }

    private static void plainly() {
        Script.play("all its intents become versions with its write stamp at once",
            "pass 1 = 1; begin 0 1 = 0; put 0 1 5 = DONE; put 0 2 GONE = DONE; get 0 3 = GONE; commit 0 plain = DONE; told 0 0 = COMMITTED",
            "key 1 0 = 1; key 2 0 = 1; key 3 0 = 0; key 1 1 = NONE; key 2 1 = NONE; told 0 1 = 10; told 0 2 = 10; told 0 4 = 1; told 0 5 = 2",
            "told 0 6 = 0; pass 30 = 31; told 0 6 = 0; asOf 1 10 = 5; asOf 1 9 = GONE; asOf 2 10 = GONE; feed 0 = 321; feed 1 = 322; feed 2 = NONE");
        Script.play("one that writes nothing is COMMITTED, staged or not, whatever is closed",
            "begin 0 1 = 0; get 0 1 = GONE; begin 0 1 = 1; pass 50 = 50; commit 0 staged = DONE; told 0 0 = COMMITTED; told 0 2 = 1",
            "commit 1 plain = DONE; told 1 2 = 3; order 0 = 0; order 1 = 1; key 1 2 = 1; judged = 0");
    }

    private static void staged() {
        Script.play("staged, it is STAGED, and that is all",
            "begin 0 1 = 0; put 0 1 5 = DONE; commit 0 staged = DONE; told 0 0 = STAGED; key 1 1 = 0; key 1 0 = 0; key 1 6 = 0",
            "order 0 = NONE; told 0 5 = 1; begin 0 1 = 1; put 1 1 6 = DONE; told 0 0 = COMMITTED; order 0 = 0; told 1 2 = 3");
        Script.play("staged, too, reads are refreshed, and intents have to be there",
            "begin 0 1 = 0; begin 0 1 = 1; get 0 1 = GONE; put 1 1 5 = DONE; commit 1 plain = DONE; put 0 1 6 = DONE; commit 0 staged = RESTART",
            "told 0 0 = PENDING; put 0 1 6 = DONE; commit 0 staged = DONE; told 0 0 = STAGED; begin 1 1 = 2; put 2 3 1 = DONE; down 0 = 2",
            "up 0; commit 2 staged = ENDED; told 2 0 = ABORTED; recover 0 = ABORTED");
    }

    private static void refreshing() {
        Script.play("a write stamp above the read stamp refreshes reads to it, also with the key written by itself",
            "begin 0 1 = 0; begin 1 1 = 1; get 1 1 = GONE; get 1 2 = GONE; begin 0 1 = 2; get 2 1 = GONE; put 1 1 5 = DONE; told 1 1 = 1",
            "told 1 2 = 4; commit 1 plain = DONE; told 1 1 = 4; told 1 2 = 4; key 1 2 = 4; key 1 3 = 1; key 2 2 = 4; key 2 3 = 1; order 0 = 1");
        Script.play("RESTART where it cannot be done: a version; the read stamp as the write stamp, no intents, nothing read or written",
            "begin 0 1 = 0; begin 0 1 = 1; get 0 7 = GONE; put 0 3 3 = DONE; put 1 7 1 = DONE; commit 1 plain = DONE; put 0 7 2 = DONE",
            "told 0 1 = 1; told 0 2 = 3; commit 0 plain = RESTART; told 0 0 = PENDING; told 0 1 = 3; told 0 2 = 3; told 0 4 = 0",
            "told 0 5 = 0; key 3 1 = NONE; key 7 1 = NONE; key 7 2 = 1; commit 0 plain = DONE; told 0 2 = 3; order 0 = 1; order 1 = 0");
        Script.play("an intent in the way up to it; one above it is none, one at it is",
            "begin 1 1 = 0; get 0 7 = GONE; begin 1 1 = 1; put 1 7 1 = DONE; told 1 2 = 2; begin 2 1 = 2; get 2 8 = GONE; put 0 8 1 = DONE",
            "told 0 2 = 2; commit 0 plain = RESTART; told 1 0 = PENDING; begin 1 1 = 3; told 3 1 = 3; get 3 9 = GONE; begin 2 1 = 4",
            "told 4 1 = 2; get 4 10 = GONE; begin 1 1 = 5; put 5 9 1 = DONE; told 5 2 = 4; abort 1 = DONE; begin 2 1 = 6; begin 2 1 = 7",
            "get 7 11 = GONE; told 7 1 = 4; get 3 6 = GONE; begin 3 1 = 8; get 8 6 = GONE; put 3 6 1 = DONE; told 3 2 = 3; commit 3 plain = DONE");
        Script.play("a version at the write stamp is one",
            "begin 1 1 = 0; begin 2 1 = 1; begin 1 1 = 2; get 0 1 = GONE; put 2 1 5 = DONE; told 2 2 = 2; commit 2 plain = DONE",
            "get 1 2 = GONE; put 0 2 5 = DONE; told 0 2 = 2; commit 0 plain = RESTART");
        Script.play("one at the read stamp is none",
            "skew 1 5 = 0; pass 10 = 10; begin 1 0 = 0; put 0 3 77 = DONE; commit 0 plain = DONE; begin 2 0 = 1; get 1 3 = 77; told 1 1 = 150",
            "begin 1 0 = 2; get 2 4 = GONE; put 1 4 5 = DONE; told 1 2 = 152; commit 1 plain = DONE; told 1 1 = 152; key 3 2 = 152");
        Script.play("one above it is none",
            "skew 1 5 = 0; begin 1 1 = 0; begin 2 1 = 1; begin 3 1 = 2; get 1 1 = GONE; get 2 2 = GONE; put 0 1 9 = DONE; commit 0 plain = DONE",
            "put 1 2 5 = DONE; told 1 2 = 2; commit 1 plain = DONE; told 1 0 = COMMITTED; judged = 0; order 0 = 1; order 1 = 0");
        Script.play("not above the read stamp: no refresh, whatever there is",
            "skew 1 5 = 0; begin 1 1 = 0; begin 2 1 = 1; get 1 1 = GONE; put 0 1 9 = DONE; commit 0 plain = DONE; commit 1 plain = DONE",
            "told 1 2 = 1; key 1 2 = 1; order 0 = 1; order 1 = 0; judged = 0");
    }

    private static void lostIntents() {
        Script.play("ABORTED if some of its intents are not there any more, behind the refresh",
            "split 8 = 2; move 1 1 = 0; begin 2 1 = 0; get 0 1 = GONE; put 0 0 1 = DONE; put 0 9 1 = DONE; down 1 = 1; up 1 = 3",
            "told 0 1 = 1; told 0 2 = 2; commit 0 plain = ENDED; told 0 0 = ABORTED; told 0 1 = 2; key 0 1 = 0; key 1 2 = 2; order 0 = NONE",
            "told 0 4 = 1; told 0 5 = 2; commit 0 plain = ENDED");
        Script.play("also that at the first key, or just that at the last",
            "begin 1 1 = 0; put 0 0 1 = DONE; down 0 = 1; up 0; commit 0 plain = ENDED; begin 1 1 = 1; put 1 31 1 = DONE; down 0 = 1; up 0",
            "commit 1 staged = ENDED; told 1 0 = ABORTED");
        Script.play("a RESTART goes before that",
            "begin 1 1 = 0; get 0 1 = GONE; put 0 2 1 = DONE; down 0 = 1; up 0 = 3; begin 0 1 = 1; put 1 1 1 = DONE; commit 1 plain = DONE",
            "put 0 3 1 = DONE; told 0 2 = 4; begin 0 1 = 2; get 2 4 = GONE; put 0 4 1 = DONE; commit 0 plain = RESTART; told 0 0 = PENDING",
            "commit 0 plain = DONE");
        Script.play("written once more, it is there again",
            "begin 1 1 = 0; put 0 2 1 = DONE; down 0 = 1; up 0 = 3; key 2 1 = NONE; told 0 5 = 1; put 0 2 4 = DONE; told 0 2 = 4",
            "told 0 5 = 1; commit 0 plain = DONE; begin 0 1 = 1; get 1 2 = 4");
        Script.play("another one's intent there is not its own",
            "begin 1 1 = 0; put 0 2 1 = DONE; down 0 = 1; up 0 = 3; begin 1 1 = 1; put 1 2 9 = DONE; commit 0 staged = ENDED",
            "told 0 0 = ABORTED; key 2 1 = 1; commit 1 plain = DONE");
    }

    private static void closedStamps() {
        Script.play("at least 1 more than the closed stamp, if it writes",
            "begin 0 1 = 0; get 0 2 = GONE; put 0 1 5 = DONE; pass 20 = 20; closed = 50; commit 0 plain = DONE; told 0 1 = 51; told 0 2 = 51",
            "key 2 2 = 51; key 2 3 = 0; asOf 1 50 = GONE; feed 0 = NONE; pass 1 = 21; asOf 1 51 = 5; asOf 1 50 = GONE; feed 0 = 1633");
        Script.play("so it may be a RESTART",
            "begin 0 1 = 0; get 0 2 = GONE; put 0 1 5 = DONE; begin 0 1 = 1; put 1 2 5 = DONE; commit 1 plain = DONE; pass 20 = 20",
            "commit 0 plain = RESTART; told 0 1 = 51; told 0 2 = 51; get 0 2 = 5");
        Script.play("not if it is above that yet",
            "pass 20 = 20; begin 0 1 = 0; put 0 1 5 = DONE; commit 0 plain = DONE; told 0 2 = 200");
    }
}
