/** Promises 1 to 8: a new object, pass, skew, clock, closed, down, up, sync. */
public final class TimeAndNodesTest {
    public static void main(String[] arguments) {
        newObject();
        passing();
        skews();
        clocks();
        closedStamps();
        goingDown();
        comingUp();
        syncing();
        Script.end("TimeAndNodesTest");
    }

    private static void newObject() {
        Script.play("promise 1: nothing is there",
            "closed = 0; resolved = 0; judged = 0; feed 0 = NONE; order 0 = NONE; told 0 0 ! Index",
            "key 0 0 = 0; key 0 1 = NONE; key 0 2 = 0; key 0 3 = NONE; key 0 4 = 0; key 0 5 = 0; key 0 6 = 0",
            "key 31 0 = 0; key 31 1 = NONE; key 31 2 = 0; key 31 3 = NONE; key 31 4 = 0; key 31 5 = 0; key 31 6 = 0",
            "asOf 0 0 = GONE; asOf 31 0 = GONE");
        Script.play("promise 1: one range on the node 0, all nodes up",
            "merge 0 ! Index; move 1 0 ! Index; up 0 ! State; up 1 ! State; up 2 ! State; up 3 ! State",
            "clock 0 = 1; clock 1 = 1; clock 2 = 1; clock 3 = 1; pass 1 = 1",
            "skew 0 0 = 0; skew 1 0 = 0; skew 2 0 = 0; skew 3 0 = 0; split 1 = 2");
    }

    private static void passing() {
        Script.play("promise 2: bounds of the ticks",
            "pass 1 = 1; pass 50 = 51; pass 0 ! Argument; pass 51 ! Argument; pass -1 ! Argument",
            "pass 2147483647 ! Argument; pass -2147483648 ! Argument; pass 1 = 52; closed = 370");
        Script.play("promise 2: the time ends at 2000",
            "repeat 39 pass 50; pass 49 = 1999; pass 2 ! State; pass 50 ! State; pass 51 ! Argument; pass 0 ! Argument",
            "pass 1 = 2000; pass 1 ! State; pass 0 ! Argument; closed = 19850; clock 0 = 20000");
    }

    private static void skews() {
        Script.play("promise 3: bounds, and the skew before",
            "skew 0 5 = 0; skew 0 -5 = 5; skew 0 0 = -5; skew 0 6 ! Argument; skew 0 -6 ! Argument",
            "skew 4 0 ! Index; skew -1 0 ! Index; skew 4 6 ! Index; skew -1 -6 ! Index; skew 0 1 = 0; skew 3 2 = 0");
        Script.play("promise 3: a skew is of one node, in ticks, and a clock goes on rising",
            "skew 1 3 = 0; clock 1 = 30; clock 0 = 1; skew 1 -5 = 3; clock 1 = 31; skew 3 -5 = 0; clock 3 = 1",
            "pass 10 = 10; clock 3 = 50; clock 1 = 50; clock 0 = 100; skew 2 5 = 0; clock 2 = 150");
        Script.play("promise 3: also of a node that is down",
            "down 2 = 0; skew 2 4 = 0; skew 2 5 = 4; up 2 = 50");
    }

    private static void clocks() {
        Script.play("promise 4: it has met what it told",
            "clock 0 = 1; clock 0 = 2; pass 1 = 1; clock 0 = 10; clock 0 = 11; clock 1 = 10; clock 3 = 10");
        Script.play("promise 4: wrong nodes, and one that is down",
            "clock 4 ! Index; clock -1 ! Index; down 0 = 0; clock 0 ! State; clock 1 = 1; up 0 = 1; clock 0 = 2");
        Script.play("promise 4: the node of a key has met the read stamp of the one that asks",
            "skew 1 5 = 0; begin 1 0 = 0; get 0 3 = GONE; clock 0 = 52; clock 1 = 51; clock 2 = 1");
    }

    private static void closedStamps() {
        Script.play("promise 5: 15 ticks behind, at least 0",
            "closed = 0; pass 14 = 14; closed = 0; pass 1 = 15; closed = 0; pass 1 = 16; closed = 10; pass 50 = 66; closed = 510");
        Script.play("promise 5: no skew, no node and no clock changes it",
            "pass 20 = 20; skew 0 5 = 0; clock 0 = 250; closed = 50; down 0 = 0; closed = 50; begin 1 1 = 0; closed = 50");
    }

    private static void goingDown() {
        Script.play("promise 6: just the intents on its ranges that are not sure are lost",
            "split 8 = 2; move 1 1 = 0; begin 2 1 = 0; put 0 0 10 = DONE; put 0 1 11 = DONE; sync 0 = 2",
            "put 0 1 12 = DONE; put 0 2 13 = DONE; put 0 8 14 = DONE; down 0 = 2",
            "key 0 1 = 0; key 1 1 = NONE; key 2 1 = NONE; key 8 1 = 0; key 0 6 = 1; told 0 5 = 4",
            "down 1 = 1; key 8 1 = NONE; key 0 1 = 0");
        Script.play("promise 6: those of ABORTED and of STAGED ones, too",
            "begin 2 1 = 0; begin 2 1 = 1; put 0 0 1 = DONE; put 1 1 1 = DONE; abort 0 = DONE; commit 1 staged = DONE",
            "key 0 1 = 0; key 1 1 = 1; down 0 = 2; key 0 1 = NONE; key 1 1 = NONE; recover 1 = ABORTED");
        Script.play("promise 6: exceptions",
            "down 4 ! Index; down -1 ! Index; down 3 = 0; down 3 ! State; down 0 = 0; down 0 ! State; down 4 ! Index");
        Script.play("promise 6: versions stay",
            "begin 0 1 = 0; put 0 0 5 = DONE; commit 0 plain = DONE; down 0 = 0; key 0 0 = 1; up 0 = 3",
            "begin 0 1 = 1; get 1 0 = 5");
    }

    private static void comingUp() {
        Script.play("promise 7: its clock is asked, and its keys are read so by several",
            "pass 3 = 3; down 0 = 0; up 0 = 30; key 0 2 = 30; key 0 3 = SEVERAL; key 31 2 = 30; key 31 3 = SEVERAL; clock 0 = 31");
        Script.play("promise 7: just the keys on its ranges",
            "split 16 = 2; move 1 1 = 0; key 16 2 = 1; key 16 3 = SEVERAL; key 15 2 = 0; key 15 3 = NONE",
            "pass 1 = 1; down 1 = 0; up 1 = 10; key 16 2 = 10; key 15 2 = 0; key 15 3 = NONE; down 2 = 0; up 2 = 10; key 16 2 = 10");
        Script.play("promise 7: just if that is greater",
            "split 16 = 2; move 1 1 = 0; begin 2 1 = 0; get 0 0 = GONE; key 0 2 = 1; skew 3 5 = 0; begin 3 1 = 1",
            "get 1 16 = GONE; key 16 2 = 50; put 0 16 1 = DONE; told 0 2 = 51; commit 0 plain = DONE",
            "key 0 2 = 51; key 0 3 = 0; down 0 = 0; up 0 = 3; key 0 2 = 51; key 0 3 = 0; key 1 2 = 3; key 1 3 = SEVERAL");
        Script.play("promise 7: the same stamp is not greater",
            "split 16 = 2; move 1 1 = 0; begin 2 1 = 0; get 0 0 = GONE; skew 3 5 = 0; begin 3 1 = 1; get 1 16 = GONE; put 0 16 1 = DONE",
            "commit 0 plain = DONE; key 0 2 = 51; pass 5 = 5; clock 0 = 50; down 0 = 0; up 0 = 51; key 0 2 = 51; key 0 3 = 0; key 1 3 = SEVERAL");
        Script.play("promise 7: exceptions",
            "up 4 ! Index; up -1 ! Index; up 0 ! State; down 0 = 0; up 1 ! State; up 0 = 1; up 0 ! State");
        Script.play("promise 7: a clock that goes behind still rises",
            "pass 2 = 2; clock 1 = 20; skew 1 -2 = 0; down 1 = 0; up 1 = 21");
    }

    private static void syncing() {
        Script.play("promise 8: makes sure what is not",
            "split 8 = 2; move 1 1 = 0; begin 2 1 = 0; put 0 0 1 = DONE; put 0 1 1 = DONE; put 0 9 1 = DONE; key 0 6 = 0",
            "sync 0 = 2; key 0 6 = 1; key 1 6 = 1; key 9 6 = 0; key 2 6 = 0; sync 0 = 0; sync 1 = 1; key 9 6 = 1",
            "put 0 0 2 = DONE; key 0 6 = 0; key 1 6 = 1; sync 0 = 1; sync 3 = 0");
        Script.play("promise 8: those of ABORTED and of STAGED ones, too",
            "begin 2 1 = 0; begin 2 1 = 1; put 0 0 1 = DONE; put 1 1 1 = DONE; abort 0 = DONE; commit 1 staged = DONE",
            "sync 0 = 2; down 0 = 0; key 0 1 = 0; key 1 1 = 1; recover 1 = COMMITTED; key 1 0 = 1");
        Script.play("promise 8: exceptions",
            "sync 4 ! Index; sync -1 ! Index; down 1 = 0; sync 1 ! State; sync 0 = 0; up 1; sync 1 = 0");
    }
}
