/** Promises 19 to 25: told, key, asOf, resolved, feed, order, judged. */
public final class QuestionsTest {
    public static void main(String[] arguments) {
        told();
        keys();
        asOf();
        resolved();
        feed();
        order();
        judged();
        manyChanges();
        Script.end("QuestionsTest");
    }

    private static void told() {
        Script.play("promise 19: exceptions, and which goes first",
            "told 0 0 ! Index; begin 0 1 = 0; told 0 -1 ! Argument; told 0 7 ! Argument; told 1 0 ! Index; told -1 0 ! Index",
            "told 1 7 ! Index; told -1 -1 ! Index; told 0 6 = 0; told 0 2147483647 ! Argument");
        Script.play("promise 19: each of them",
            "pass 1 = 1; begin 0 1 = 0; begin 1 1 = 1; put 0 1 1 = DONE; put 0 2 1 = DONE; get 1 3 = GONE; get 1 4 = GONE; get 1 3 = GONE",
            "put 1 3 1 = DONE; put 1 1 1 = WAITS; told 0 0 = PENDING; told 0 1 = 10; told 0 2 = 10; told 0 3 = NONE; told 0 4 = 0; told 0 5 = 2",
            "told 0 6 = 0; told 1 0 = PENDING; told 1 1 = 10; told 1 2 = 10; told 1 3 = 0; told 1 4 = 2; told 1 5 = 1; told 1 6 = 0",
            "commit 0 plain = DONE; told 0 0 = COMMITTED; told 1 3 = NONE; pass 20 = 21; told 1 6 = 0; pass 1 = 22; told 1 6 = 1; told 0 6 = 0");
    }

    private static void keys() {
        Script.play("promise 20: exceptions, and which goes first",
            "key 32 0 ! Index; key -1 0 ! Index; key 0 -1 ! Argument; key 0 7 ! Argument; key 32 7 ! Index; key -1 -1 ! Index; key 31 6 = 0");
        Script.play("promise 20: each of them",
            "split 8 = 2; move 1 3 = 0; begin 0 1 = 0; put 0 9 1 = DONE; commit 0 plain = DONE; begin 0 1 = 1; get 1 9 = 1; put 1 9 2 = DONE",
            "sync 3 = 1; key 9 0 = 1; key 9 1 = 1; key 9 2 = 3; key 9 3 = 1; key 9 4 = 1; key 9 5 = 3; key 9 6 = 1; commit 1 plain = DONE",
            "key 9 0 = 2; key 9 1 = NONE; key 9 6 = 0; key 10 0 = 0; key 10 3 = SEVERAL; key 7 4 = 0; key 7 5 = 0; key 7 3 = NONE");
    }

    private static void asOf() {
        Script.play("promise 21: exceptions, and which goes first",
            "asOf 0 0 = GONE; asOf 0 1 ! Argument; asOf 0 -1 ! Argument; asOf 32 0 ! Index; asOf -1 0 ! Index; asOf 32 5 ! Index; asOf -1 -1 ! Index",
            "pass 16 = 16; asOf 0 10 = GONE; asOf 0 11 ! Argument; asOf 31 0 = GONE; pass 50 = 66; asOf 0 510 = GONE; asOf 0 511 ! Argument");
        Script.play("promise 21: the latest value up to that, without any node",
            "pass 1 = 1; begin 0 1 = 0; put 0 1 5 = DONE; commit 0 plain = DONE; pass 1 = 2; begin 0 1 = 1; put 1 1 6 = DONE; commit 1 plain = DONE",
            "pass 1 = 3; begin 0 1 = 2; put 2 1 GONE = DONE; commit 2 plain = DONE; pass 20 = 23; down 0 = 0; asOf 1 0 = GONE; asOf 1 9 = GONE",
            "asOf 1 10 = 5; asOf 1 19 = 5; asOf 1 20 = 6; asOf 1 29 = 6; asOf 1 30 = GONE; asOf 1 80 = GONE; asOf 2 80 = GONE; key 1 2 = 0");
        Script.play("promise 21: WAITS for one that is STAGED up to that, whatever will be of it",
            "split 8 = 2; move 1 1 = 0; pass 1 = 1; begin 0 1 = 0; put 0 1 5 = DONE; put 0 9 5 = DONE; commit 0 staged = DONE; down 1 = 1",
            "pass 20 = 21; asOf 1 9 = GONE; asOf 1 10 = WAITS; asOf 1 60 = WAITS; asOf 9 10 = GONE; told 0 0 = STAGED; recover 0 = ABORTED",
            "asOf 1 10 = GONE; asOf 1 60 = GONE; key 1 1 = 0");
        Script.play("promise 21: not for one that is PENDING, vanished or not",
            "begin 0 1 = 0; put 0 1 5 = DONE; pass 30 = 30; asOf 1 150 = GONE; told 0 0 = PENDING; key 1 1 = 0; commit 0 plain = DONE; told 0 2 = 151",
            "asOf 1 150 = GONE; pass 1 = 31; asOf 1 151 = 5");
    }

    private static void resolved() {
        Script.play("promise 22: the closed stamp, or 1 less than the least write stamp of one that is STAGED",
            "pass 1 = 1; begin 0 1 = 0; put 0 1 5 = DONE; commit 0 staged = DONE; pass 1 = 2; begin 0 1 = 1; put 1 2 5 = DONE; commit 1 staged = DONE",
            "resolved = 0; pass 14 = 16; closed = 10; resolved = 9; pass 1 = 17; closed = 20; resolved = 9; recover 0 = COMMITTED; resolved = 19",
            "recover 1 = COMMITTED; resolved = 20; begin 0 1 = 2; put 2 3 1 = DONE; pass 20 = 37; resolved = 220; abort 2 = DONE; resolved = 220");
        Script.play("promise 22: the least of several, in any order",
            "pass 2 = 2; skew 1 -1 = 0; begin 0 1 = 0; put 0 1 5 = DONE; begin 1 1 = 1; put 1 2 5 = DONE; begin 0 1 = 2; put 2 3 5 = DONE",
            "commit 0 staged = DONE; commit 1 staged = DONE; commit 2 staged = DONE; pass 20 = 22; closed = 70; resolved = 9; recover 1 = COMMITTED",
            "resolved = 19");
    }

    private static void feed() {
        Script.play("promise 23: by stamps, then keys, up to the stamp that is resolved",
            "feed -1 ! Index; feed 0 = NONE; pass 2 = 2; skew 1 -1 = 0; begin 0 1 = 0; put 0 9 5 = DONE; put 0 1 GONE = DONE; put 0 31 7 = DONE",
            "commit 0 plain = DONE; begin 1 1 = 1; told 1 1 = 10; put 1 4 6 = DONE; commit 1 plain = DONE; feed 0 = NONE; pass 14 = 16; feed 0 = 324",
            "feed 1 = NONE; pass 1 = 17; feed 0 = 324; feed 1 = 641; feed 2 = 649; feed 3 = 671; feed 4 = NONE; feed 2147483647 = NONE; feed -1 ! Index",
            "asOf 9 20 = 5; asOf 31 20 = 7; asOf 4 20 = 6; asOf 4 10 = 6; asOf 1 20 = GONE; asOf 9 19 = GONE");
        Script.play("promise 23: not behind one that is STAGED",
            "pass 1 = 1; begin 0 1 = 0; begin 0 1 = 1; put 0 1 5 = DONE; put 1 2 5 = DONE; commit 0 staged = DONE; commit 1 plain = DONE",
            "pass 20 = 21; closed = 60; resolved = 9; feed 0 = NONE; recover 0 = COMMITTED; feed 0 = 321; feed 1 = 354; feed 2 = NONE");
    }

    private static void order() {
        Script.play("promise 24: by write stamps, of the same in the order in which they were committed",
            "order -1 ! Index; order 0 = NONE; pass 1 = 1; begin 0 1 = 0; begin 1 1 = 1; begin 2 1 = 2; begin 3 1 = 3; begin 3 1 = 4",
            "commit 4 plain = DONE; commit 2 plain = DONE; commit 0 plain = DONE; put 3 1 5 = DONE; commit 3 staged = DONE; commit 1 plain = DONE",
            "order 0 = 2; order 1 = 0; order 2 = 1; order 3 = 4; order 4 = NONE; recover 3 = COMMITTED; order 3 = 3; order 4 = 4; order 5 = NONE",
            "order 2147483647 = NONE; order -1 ! Index; order -2147483648 ! Index");
    }

    private static void judged() {
        Script.play("promise 25: the first key and the last one",
            "begin 0 1 = 0; put 0 0 5 = DONE; put 0 31 6 = DONE; commit 0 plain = DONE; begin 0 1 = 1; get 1 0 = 5; get 1 31 = 6",
            "put 1 0 7 = DONE; put 1 31 GONE = DONE; judged = 0; commit 1 plain = DONE; begin 0 1 = 2; get 2 0 = 7; get 2 31 = GONE",
            "commit 2 plain = DONE; judged = 0");
        Script.play("promise 25: versions read by others, own writes, values that came again",
            "judged = 0; begin 0 1 = 0; get 0 1 = GONE; put 0 1 5 = DONE; get 0 1 = 5; commit 0 plain = DONE; judged = 0; begin 0 1 = 1; get 1 1 = 5",
            "put 1 1 6 = DONE; begin 0 1 = 2; commit 1 plain = DONE; get 2 1 = 6; begin 2 1 = 3; get 3 1 = 6; commit 3 plain = DONE",
            "put 2 1 5 = DONE; commit 2 plain = DONE; judged = 0; order 0 = 0; order 1 = 1; order 2 = 3; order 3 = 2");
    }

    /** 40 transactions, each with 9 keys: 360 versions, in 511 calls. */
    private static void manyChanges() {
        String[] lines = new String[40 * 3 + 9];
        for (int t = 0; t < 40; t++) {
            StringBuilder puts = new StringBuilder("begin 0 1 = " + t);
            for (int i = 0; i < 9; i++) puts.append("; put ").append(t).append(' ').append(i * 3 + t % 3).append(' ').append(t).append(" = DONE");
            lines[t * 3] = "pass 1 = " + (t + 1);
            lines[t * 3 + 1] = puts.toString();
            lines[t * 3 + 2] = "commit " + t + " plain = DONE";
        }
        lines[120] = "pass 20 = 60; resolved = 450; order 0 = 0; order 39 = 39; order 40 = NONE; feed 359 = " + (400 * 32 + 24) + "; feed 360 = NONE";
        for (int i = 1; i < 9; i++) {
            lines[120 + i] = "feed " + i + " = " + (320 + 3 * i) + "; feed " + (9 * 20 + i) + " = " + (210 * 32 + 3 * i + 2) + "; key " + i + " 0 = " + (i % 3 == 0 ? 14 : 13);
        }
        Script.play("promises 23 and 24: a feed and an order as long as they can be", lines);
    }
}
