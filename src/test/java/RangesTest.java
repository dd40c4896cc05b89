/** Promises 9 to 11: split, merge, move. */
public final class RangesTest {
    public static void main(String[] arguments) {
        splitting();
        merging();
        moving();
        Script.end("RangesTest");
    }

    private static void splitting() {
        Script.play("promise 9: bounds, and the numbers of ranges",
            "split 0 ! Index; split 32 ! Index; split -1 ! Index; split 1 = 2; split 31 = 3; split 31 ! State; split 1 ! State",
            "split 16 = 4; key 0 4 = 0; key 1 4 = 1; key 15 4 = 1; key 16 4 = 2; key 30 4 = 2; key 31 4 = 3; split 0 ! Index");
        Script.play("promise 9: the new range is on the same node, which may be down; no key is read by that",
            "split 8 = 2; move 1 2 = 0; key 8 2 = 1; down 2 = 0; split 20 = 3; key 20 5 = 2; key 19 5 = 2; key 7 5 = 0",
            "key 20 2 = 1; split 4 = 4; key 4 5 = 0; key 4 2 = 0; key 8 4 = 2; key 20 4 = 3; move 2 0 ! State");
        Script.play("promise 9: as many ranges as keys",
            "split 1 = 2; split 2 = 3; split 3 = 4; split 4 = 5; split 5 = 6; split 6 = 7; split 7 = 8; split 8 = 9",
            "split 9 = 10; split 10 = 11; split 11 = 12; split 12 = 13; split 13 = 14; split 14 = 15; split 15 = 16",
            "split 16 = 17; split 17 = 18; split 18 = 19; split 19 = 20; split 20 = 21; split 21 = 22; split 22 = 23",
            "split 23 = 24; split 24 = 25; split 25 = 26; split 26 = 27; split 27 = 28; split 28 = 29; split 29 = 30",
            "split 30 = 31; split 31 = 32; key 31 4 = 31; move 31 3 = 0; key 31 5 = 3; key 30 5 = 0; merge 31 ! Index",
            "merge 30 ! State; merge 29 = 31; key 31 4 = 30; key 30 4 = 29; key 29 4 = 29");
    }

    private static void merging() {
        Script.play("promise 10: no such range, or no next one",
            "merge 0 ! Index; merge -1 ! Index; split 8 = 2; split 16 = 3; merge 2 ! Index; merge 3 ! Index; merge -1 ! Index",
            "merge 2147483647 ! Index; merge -2147483648 ! Index; merge 1 = 2; key 16 4 = 1; key 8 4 = 1; merge 1 ! Index",
            "split 16 = 3; merge 0 = 2; key 8 4 = 0; key 16 4 = 1; split 8 = 3; merge 1 = 2; merge 0 = 1; merge 0 ! Index");
        Script.play("promise 10: on different nodes",
            "split 8 = 2; split 16 = 3; move 2 1 = 0; merge 1 ! State; merge 2 ! Index; merge 0 = 2; merge 0 ! State",
            "key 7 4 = 0; key 8 4 = 0; key 16 4 = 1; move 1 0 = 1; merge 0 = 1; key 31 4 = 0; key 31 5 = 0");
        Script.play("promise 10: nodes that are down don't matter, and nothing else is changed",
            "split 8 = 2; begin 0 1 = 0; put 0 9 5 = DONE; down 0 = 1; merge 0 = 1; key 9 2 = 0; up 0 = 3; key 9 2 = 3");
    }

    private static void moving() {
        Script.play("promise 11: the clock of the node on which it was is asked, for just its keys",
            "pass 2 = 2; split 8 = 2; split 16 = 3; move 1 3 = 0; key 8 5 = 3; key 15 5 = 3; key 7 5 = 0; key 16 5 = 0",
            "key 8 2 = 20; key 8 3 = SEVERAL; key 15 2 = 20; key 7 2 = 0; key 7 3 = NONE; key 16 2 = 0",
            "clock 0 = 21; clock 3 = 20; pass 1 = 3; skew 3 5; move 1 0 = 3; key 8 2 = 80; clock 3 = 81; clock 0 = 30; move 0 1 = 0; key 0 2 = 31");
        Script.play("promise 11: also to the node on which it is",
            "move 0 0 = 0; key 0 2 = 1; key 31 3 = SEVERAL; clock 0 = 2");
        Script.play("promise 11: just if that is greater",
            "split 16 = 2; move 1 1 = 0; begin 2 1 = 0; get 0 0 = GONE; skew 3 5 = 0; begin 3 1 = 1; get 1 16 = GONE",
            "put 0 16 1 = DONE; commit 0 plain = DONE; key 0 2 = 51; move 0 3 = 0; key 0 2 = 51; key 0 3 = 0; key 1 2 = 3");
        Script.play("promise 11: the same stamp is not greater",
            "begin 0 1 = 0; get 0 0 = GONE; key 0 2 = 1; key 0 3 = 0; clock 0 = 3; move 0 1 = 0; key 0 2 = 4; key 0 3 = SEVERAL");
        Script.play("promise 11: exceptions",
            "move 1 0 ! Index; move -1 0 ! Index; move 0 4 ! Index; move 0 -1 ! Index; move 2147483647 0 ! Index",
            "down 1 = 0; move 0 1 ! State; move 1 1 ! Index; move 0 4 ! Index; down 0 = 0; move 0 0 ! State; move 0 2 ! State",
            "up 0 = 1; up 1 = 1; key 0 2 = 1; move 0 1 = 0; key 0 2 = 2; down 0 = 0; move 0 2 = 1; key 0 5 = 2");
        Script.play("promise 11: intents and versions come along, sure or not",
            "begin 0 1 = 0; put 0 0 5 = DONE; commit 0 plain = DONE; begin 3 1 = 1; put 1 1 6 = DONE; sync 0 = 1; put 1 2 7 = DONE",
            "move 0 2 = 0; key 0 0 = 1; key 1 1 = 1; key 1 6 = 1; key 2 6 = 0; down 0 = 0; key 2 1 = 1; down 2 = 1; key 2 1 = NONE; key 1 1 = 1");
    }
}
