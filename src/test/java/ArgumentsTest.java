/**
 * Each call's arguments, promise by promise: the least and the greatest that is allowed, the first one beyond each,
 * each exception, and which one is thrown where several apply. Script sees that what is refused changes nothing.
 */
public final class ArgumentsTest {
    private static final String LEAST = "-2147483648";
    private static final String GREATEST = "2147483647";

    public static void main(String[] arguments) {
        newObject();
        pass();
        skew();
        clock();
        closed();
        downAndUp();
        sync();
        split();
        merge();
        move();
        begin();
        get();
        put();
        commit();
        abortRecoverBeat();
        told();
        key();
        asOf();
        resolved();
        feed();
        order();
        Script.end("ArgumentsTest");
    }

    private static void newObject() {
        Script.play("promise 1: one range on the node 0, from the first key to the last",
            "key 0 4 = 0; key 31 4 = 0; key 0 5 = 0; key 31 5 = 0; merge 0 ! Index; move 1 0 ! Index; split 1 = 2");
        Script.play("promise 1: keys without versions, intents and reads, from the first to the last",
            "key 0 0 = 0; key 31 0 = 0; key 0 1 = NONE; key 31 1 = NONE; key 0 2 = 0; key 31 2 = 0; key 0 3 = NONE; key 31 3 = NONE",
            "key 0 6 = 0; key 31 6 = 0; feed 0 = NONE; order 0 = NONE; judged = 0; resolved = 0; begin 0 0 = 0; get 0 0 = GONE; get 0 31 = GONE");
        Script.play("promise 1: no transaction, the time 0, each skew 0, no node down",
            "told 0 0 ! Index; closed = 0; pass 1 = 1; skew 0 0 = 0; skew 1 0 = 0; skew 2 0 = 0; skew 3 0 = 0",
            "clock 0 = 10; clock 1 = 10; clock 2 = 10; clock 3 = 10; up 0 ! State; up 1 ! State; up 2 ! State; up 3 ! State");
    }

    private static void pass() {
        Script.play("promise 2: the least ticks, and the first below", "pass 1 = 1; pass 0 ! Argument; pass -1 ! Argument; pass 1 = 2");
        Script.play("promise 2: the most ticks, and the first beyond", "pass 50 = 50; pass 51 ! Argument; pass 50 = 100");
        Script.play("promise 2: ticks far outside", "pass " + LEAST + " ! Argument; pass " + GREATEST + " ! Argument; pass 1 = 1");
        Script.play("promise 2: 2000 is not above 2000", "repeat 39 pass 50; pass 50 = 2000; clock 0 = 20000; closed = 19850");
        Script.play("promise 2: 2001 is, by the most ticks", "repeat 39 pass 50; pass 1 = 1951; pass 50 ! State; pass 49 = 2000");
        Script.play("promise 2: 2001 is, by the least ticks", "repeat 40 pass 50; pass 1 ! State; closed = 19850; clock 3 = 20000");
        Script.play("promise 2: ticks out of their range go ahead of the time",
            "repeat 40 pass 50; pass 51 ! Argument; pass 0 ! Argument; pass 50 ! State; pass " + GREATEST + " ! Argument");
    }

    private static void skew() {
        Script.play("promise 3: the least node and the greatest, and the first beyond each",
            "skew 0 1 = 0; skew 3 2 = 0; skew -1 1 ! Index; skew 4 1 ! Index; skew 0 0 = 1; skew 3 0 = 2; skew 1 0 = 0; skew 2 0 = 0");
        Script.play("promise 3: the least skew and the first below", "skew 0 -5 = 0; skew 0 -6 ! Argument; skew 0 0 = -5");
        Script.play("promise 3: the greatest skew and the first beyond", "skew 0 5 = 0; skew 0 6 ! Argument; skew 0 0 = 5");
        Script.play("promise 3: far outside",
            "skew " + LEAST + " 0 ! Index; skew " + GREATEST + " 0 ! Index; skew 0 " + LEAST + " ! Argument; skew 0 " + GREATEST + " ! Argument");
        Script.play("promise 3: the node goes ahead of the skew", "skew -1 -6 ! Index; skew 4 6 ! Index; skew 0 0 = 0; skew 3 0 = 0");
        Script.play("promise 3: a node that is down is one, too", "down 3 = 0; skew 3 5 = 0; skew 3 -5 = 5; up 3 = 1");
    }

    private static void clock() {
        Script.play("promise 4: the least node and the greatest, and the first beyond each",
            "clock 0 = 1; clock 3 = 1; clock -1 ! Index; clock 4 ! Index; clock 0 = 2; clock 3 = 2; clock " + LEAST + " ! Index; clock " + GREATEST + " ! Index");
        Script.play("promise 4: one that is down, which has met nothing by that", "down 3 = 0; clock 3 ! State; clock 3 ! State; up 3 = 1; clock 3 = 2");
        Script.play("promise 4: no such node, though all are down", "down 0; down 1; down 2; down 3; clock 4 ! Index; clock -1 ! Index; clock 0 ! State");
    }

    private static void closed() {
        Script.play("promise 5: 0 as long as the time is not above 15", "closed = 0; pass 14 = 14; closed = 0; pass 1 = 15; closed = 0");
        Script.play("promise 5: from 16 on 10 a tick", "pass 16 = 16; closed = 10; pass 1 = 17; closed = 20");
        Script.play("promise 5: at the end of the time", "repeat 40 pass 50; closed = 19850");
    }

    private static void downAndUp() {
        Script.play("promise 6: the least node and the greatest, and the first beyond each",
            "down 0 = 0; down 3 = 0; down -1 ! Index; down 4 ! Index; clock 1 = 1; clock 2 = 1; clock 0 ! State; clock 3 ! State",
            "down " + LEAST + " ! Index; down " + GREATEST + " ! Index");
        Script.play("promise 6: one that is down yet", "down 2 = 0; down 2 ! State; down 1 = 0; down 1 ! State; up 2 = 1; down 2 = 0");
        Script.play("promise 6: no intent is lost, and all of 32",
            "begin 1 1 = 0; down 0 = 0; up 0 = 1; " + puts(0, 32) + "; down 0 = 32; key 0 1 = NONE; key 31 1 = NONE; told 0 5 = 32");
        Script.play("promise 7: the least node and the greatest, and the first beyond each",
            "down 0 = 0; down 3 = 0; up -1 ! Index; up 4 ! Index; up 0 = 1; up 3 = 1; up " + LEAST + " ! Index; up " + GREATEST + " ! Index");
        Script.play("promise 7: one that is not down, whose clock is not asked by that",
            "up 0 ! State; key 0 2 = 0; key 0 3 = NONE; clock 0 = 1; down 0 = 0; up 0 = 2; up 0 ! State; key 0 2 = 2; clock 0 = 3");
    }

    private static String puts(int transaction, int keys) {
        StringBuilder text = new StringBuilder();
        for (int key = 0; key < keys; key++) {
            text.append(key == 0 ? "" : "; ").append("put ").append(transaction).append(' ').append(key).append(" 7 = DONE");
        }
        return text.toString();
    }

    private static void sync() {
        Script.play("promise 8: the least node and the greatest, and the first beyond each",
            "sync 0 = 0; sync 3 = 0; sync -1 ! Index; sync 4 ! Index; sync " + LEAST + " ! Index; sync " + GREATEST + " ! Index");
        Script.play("promise 8: none that were not, and all of 32",
            "begin 1 1 = 0; sync 0 = 0; " + puts(0, 32) + "; sync 0 = 32; key 0 6 = 1; key 31 6 = 1; sync 0 = 0; down 0 = 0; key 31 1 = 0");
        Script.play("promise 8: one that is down, with an intent that is sure",
            "begin 1 1 = 0; put 0 0 7 = DONE; sync 0 = 1; down 0 = 0; sync 0 ! State; key 0 6 = 1; up 0; sync 0 = 0");
    }

    private static void split() {
        Script.play("promise 9: the least key and the first below", "split 1 = 2; split 0 ! Index; split -1 ! Index; key 0 4 = 0; key 1 4 = 1");
        Script.play("promise 9: the greatest key and the first beyond", "split 31 = 2; split 32 ! Index; key 30 4 = 0; key 31 4 = 1");
        Script.play("promise 9: far outside", "split " + LEAST + " ! Index; split " + GREATEST + " ! Index; merge 0 ! Index");
        Script.play("promise 9: one begins there already",
            "split 1 = 2; split 31 = 3; split 1 ! State; split 31 ! State; split 2 = 4; merge 0 = 3; key 1 4 = 0; split 1 = 4");
        Script.play("promise 9: one begins at 0 already, but 0 is out of the range of keys", "split 0 ! Index; split 5 = 2; split 0 ! Index");
        Script.play("promise 9: on the same node, which may be down", "move 0 3 = 0; down 3 = 0; split 1 = 2; key 0 5 = 3; key 1 5 = 3; key 31 5 = 3");
    }

    private static void merge() {
        Script.play("promise 10: just one range, so none with a next one", "merge 0 ! Index; merge -1 ! Index; merge 1 ! Index");
        Script.play("promise 10: the first range", "split 9 = 2; split 20 = 3; merge 0 = 2; key 9 4 = 0; key 20 4 = 1");
        Script.play("promise 10: the last but one", "split 9 = 2; split 20 = 3; merge 1 = 2; key 9 4 = 1; key 20 4 = 1");
        Script.play("promise 10: the last has no next one", "split 9 = 2; split 20 = 3; merge 2 ! Index; key 20 4 = 2; merge 1 = 2; merge 1 ! Index");
        Script.play("promise 10: there is no such range", "split 9 = 2; merge 2 ! Index; merge -1 ! Index; merge " + LEAST + " ! Index; merge " + GREATEST + " ! Index");
        Script.play("promise 10: on different nodes, a range of one key among them",
            "split 8 = 2; split 9 = 3; move 1 2 = 0; merge 0 ! State; merge 1 ! State; merge 2 ! Index; key 8 4 = 1; key 9 4 = 2",
            "move 2 2 = 0; merge 0 ! State; merge 1 = 2; key 9 4 = 1; key 8 5 = 2");
        Script.play("promise 10: on the same node behind a move of one of them back",
            "split 8 = 2; move 1 2 = 0; merge 0 ! State; move 1 0 = 2; merge 0 = 1; key 31 4 = 0");
        Script.play("promise 10: a next range whose first keys were on another node before",
            "split 8 = 2; split 10 = 3; move 1 1 = 0; move 0 1 = 0; merge 0 = 2; merge 0 ! State; key 9 4 = 0; key 10 4 = 1");
        Script.play("promise 10: 32 ranges, and on to one", splits(), "merge 31 ! Index; merge 30 = 31; merge 0 = 30; merge 29 ! Index; repeat 28 merge 0; merge 0 = 1; merge 0 ! Index");
    }

    private static String splits() {
        StringBuilder text = new StringBuilder("split 1 = 2");
        for (int key = 2; key < 32; key++) text.append("; split ").append(key).append(" = ").append(key + 1);
        return text.toString();
    }

    private static void move() {
        Script.play("promise 11: the first range and the last, and the first beyond each",
            "split 16 = 2; move 0 1 = 0; move 1 2 = 0; move 2 0 ! Index; move -1 0 ! Index; key 0 5 = 1; key 15 5 = 1; key 16 5 = 2; key 31 5 = 2",
            "move " + LEAST + " 0 ! Index; move " + GREATEST + " 0 ! Index");
        Script.play("promise 11: the least node and the greatest, and the first beyond each",
            "move 0 3 = 0; move 0 0 = 3; move 0 4 ! Index; move 0 -1 ! Index; key 0 5 = 0; move 0 " + LEAST + " ! Index; move 0 " + GREATEST + " ! Index");
        Script.play("promise 11: the range of one key, the last of 32", splits(), "move 31 3 = 0; move 32 3 ! Index; key 31 5 = 3; key 31 2 = 1; key 30 5 = 0; key 30 2 = 0; clock 0 = 2");
        Script.play("promise 11: the node on which it was is down", "down 0 = 0; move 0 1 ! State; key 0 5 = 0; key 0 2 = 0; up 0 = 1");
        Script.play("promise 11: the node to which it goes is down", "down 1 = 0; move 0 1 ! State; key 0 5 = 0; key 0 2 = 0; key 0 3 = NONE; clock 0 = 1");
        Script.play("promise 11: both are down, or both are the same one", "down 0 = 0; down 1 = 0; move 0 1 ! State; move 0 0 ! State; up 1 = 1; move 0 1 ! State");
        Script.play("promise 11: another one may be down", "down 2 = 0; down 3 = 0; move 0 1 = 0; key 31 5 = 1");
        Script.play("promise 11: no such range or node goes ahead of one that is down",
            "down 0 = 0; move 1 0 ! Index; move -1 1 ! Index; move 0 4 ! Index; move 0 -1 ! Index; move 1 4 ! Index; move 0 0 ! State");
    }

    private static void begin() {
        Script.play("promise 12: the least node and the greatest, and the first beyond each",
            "begin 0 0 = 0; begin 3 0 = 1; begin -1 0 ! Index; begin 4 0 ! Index; begin " + LEAST + " 0 ! Index; begin " + GREATEST + " 0 ! Index; begin 0 0 = 2");
        Script.play("promise 12: the least rank and the greatest, and the first beyond each",
            "begin 0 0 = 0; begin 0 9 = 1; begin 0 -1 ! Argument; begin 0 10 ! Argument; begin 0 " + LEAST + " ! Argument; begin 0 " + GREATEST + " ! Argument; begin 0 0 = 2");
        Script.play("promise 12: what is refused takes no number and asks no clock",
            "begin 0 10 ! Argument; begin 4 0 ! Index; down 0 = 0; begin 0 0 ! State; told 0 0 ! Index; up 0 = 1; begin 0 0 = 0; told 0 1 = 2; told 1 0 ! Index");
        Script.play("promise 12: the fortieth, and none behind it",
            "repeat 39 begin 0 0; begin 0 9 = 39; told 39 0 = PENDING; begin 0 0 ! State; begin 1 0 ! State; told 40 0 ! Index; clock 0 = 41; clock 1 = 1");
        Script.play("promise 12: 40 ever, also when all have ended",
            allCommitted(), "begin 0 0 ! State; abort 39 = ENDED; begin 3 9 ! State; order 39 = 39; clock 0 = 41");
        Script.play("promise 12: the node goes ahead of the rank, and both of the state",
            "begin 4 10 ! Index; begin -1 -1 ! Index; down 0 = 0; begin 0 10 ! Argument; begin 0 -1 ! Argument; begin 4 0 ! Index; begin 0 9 ! State",
            "repeat 40 begin 1 1; begin 1 10 ! Argument; begin 4 10 ! Index; begin 0 0 ! State; begin 1 0 ! State");
    }

    private static String allCommitted() {
        StringBuilder text = new StringBuilder();
        for (int t = 0; t < 40; t++) text.append(t == 0 ? "" : "; ").append("begin 0 0 = ").append(t).append("; commit ").append(t).append(" plain = DONE");
        return text.toString();
    }

    private static void get() {
        Script.play("promise 13: no transaction yet", "get 0 0 ! Index; get -1 0 ! Index; get 0 32 ! Index; clock 0 = 1");
        Script.play("promise 13: the least transaction and the greatest, and the first beyond each",
            "begin 0 0 = 0; begin 0 0 = 1; get 0 5 = GONE; get 1 5 = GONE; get -1 5 ! Index; get 2 5 ! Index; get " + LEAST + " 5 ! Index; get " + GREATEST + " 5 ! Index; clock 0 = 5");
        Script.play("promise 13: of 40", "repeat 40 begin 0 0; get 39 0 = GONE; get 40 0 ! Index; get 0 0 = GONE");
        Script.play("promise 13: the least key and the greatest, and the first beyond each",
            "begin 0 0 = 0; get 0 0 = GONE; get 0 31 = GONE; get 0 -1 ! Index; get 0 32 ! Index; get 0 " + LEAST + " ! Index; get 0 " + GREATEST + " ! Index; told 0 4 = 2");
        Script.play("promise 13: no such key goes ahead of ENDED and of DOWN",
            "begin 0 0 = 0; begin 0 0 = 1; abort 0 = DONE; get 0 32 ! Index; get 0 31 = ENDED; down 0 = 0; get 1 32 ! Index; get 1 -1 ! Index; get 1 31 = DOWN; get 2 0 ! Index");
        Script.play("promise 13: ENDED goes ahead of DOWN, whatever node is down",
            "begin 0 0 = 0; begin 1 0 = 1; abort 0 = DONE; commit 1 plain = DONE; down 0 = 0; get 0 0 = ENDED; get 1 0 = ENDED; down 1 = 0; get 1 0 = ENDED");
        Script.play("promise 13: it doesn't wait by what is refused, nor wait no more",
            "begin 0 0 = 0; begin 0 0 = 1; put 0 5 1 = DONE; get 1 5 = WAITS; get 1 32 ! Index; told 1 3 = 0; get 1 -1 ! Index; told 1 3 = 0; get 1 31 = GONE; told 1 3 = NONE");
    }

    private static void put() {
        Script.play("promise 14: no transaction yet", "put 0 0 0 ! Index; put -1 0 0 ! Index; put 0 32 1001 ! Index; clock 0 = 1");
        Script.play("promise 14: the least transaction and the greatest, and the first beyond each",
            "begin 0 0 = 0; begin 0 0 = 1; put 0 5 1 = DONE; put 1 6 1 = DONE; put -1 7 1 ! Index; put 2 7 1 ! Index; put " + LEAST + " 7 1 ! Index",
            "put " + GREATEST + " 7 1 ! Index; key 7 1 = NONE; clock 0 = 5");
        Script.play("promise 14: of 40", "repeat 40 begin 0 0; put 39 0 5 = DONE; put 40 1 5 ! Index; key 0 1 = 39; key 1 1 = NONE");
        Script.play("promise 14: the least key and the greatest, and the first beyond each",
            "begin 0 0 = 0; put 0 0 1 = DONE; put 0 31 1 = DONE; put 0 -1 1 ! Index; put 0 32 1 ! Index; put 0 " + LEAST + " 1 ! Index; put 0 " + GREATEST + " 1 ! Index; told 0 5 = 2");
        Script.play("promise 14: the least value, and the first below",
            "begin 0 0 = 0; put 0 4 0 = DONE; get 0 4 = 0; put 0 4 -1 ! Argument; get 0 4 = 0; put 0 5 -1 ! Argument; told 0 5 = 1");
        Script.play("promise 14: the greatest value, GONE, and the first beyond",
            "begin 0 0 = 0; put 0 4 999 = DONE; get 0 4 = 999; put 0 4 GONE = DONE; get 0 4 = GONE; put 0 4 1001 ! Argument; put 0 5 1001 ! Argument; told 0 5 = 1");
        Script.play("promise 14: values far outside", "begin 0 0 = 0; put 0 4 " + LEAST + " ! Argument; put 0 4 " + GREATEST + " ! Argument; key 4 1 = NONE; put 0 4 -11 ! Argument");
        Script.play("promise 14: transaction and key go ahead of the value",
            "put 0 0 1001 ! Index; begin 0 0 = 0; put 1 0 1001 ! Index; put -1 0 -1 ! Index; put 0 32 1001 ! Index; put 0 -1 -1 ! Index; put 0 31 1001 ! Argument");
        Script.play("promise 14: the value goes ahead of ENDED and of DOWN",
            "begin 0 0 = 0; begin 0 0 = 1; abort 0 = DONE; put 0 4 1001 ! Argument; put 0 4 1000 = ENDED; put 0 32 1 ! Index; down 0 = 0; put 1 4 -1 ! Argument; put 1 4 0 = DOWN");
        Script.play("promise 14: ENDED goes ahead of DOWN, whatever node is down",
            "begin 0 0 = 0; begin 1 0 = 1; abort 0 = DONE; commit 1 plain = DONE; down 0 = 0; put 0 0 1 = ENDED; put 1 0 1 = ENDED; down 1 = 0; put 1 0 1 = ENDED");
        Script.play("promise 14: what is refused leaves an intent as it is",
            "begin 0 0 = 0; put 0 4 7 = DONE; sync 0 = 1; put 0 4 1001 ! Argument; key 4 6 = 1; get 0 4 = 7; put 0 4 8 = DONE; key 4 6 = 0; get 0 4 = 8");
    }

    private static void commit() {
        Script.play("promise 15: no transaction yet", "commit 0 plain ! Index; commit 0 staged ! Index; commit -1 plain ! Index");
        Script.play("promise 15: the least transaction and the greatest, and the first beyond each",
            "begin 0 0 = 0; begin 0 0 = 1; commit 2 plain ! Index; commit -1 staged ! Index; commit " + LEAST + " plain ! Index; commit " + GREATEST + " staged ! Index",
            "commit 0 plain = DONE; commit 1 staged = DONE; order 1 = 1; order 2 = NONE");
        Script.play("promise 15: of 40", "repeat 40 begin 0 0; commit 40 plain ! Index; commit 39 plain = DONE; order 0 = 39");
        Script.play("promise 15: ENDED goes ahead of DOWN, whatever node is down",
            "begin 0 0 = 0; begin 0 0 = 1; begin 0 0 = 2; put 0 1 1 = DONE; put 1 2 1 = DONE; sync 0 = 2; commit 0 plain = DONE; commit 1 staged = DONE; abort 2 = DONE",
            "down 0 = 0; commit 0 plain = ENDED; commit 1 plain = ENDED; commit 1 staged = ENDED; commit 2 plain = ENDED; told 1 0 = STAGED; commit 3 plain ! Index");
    }

    private static void abortRecoverBeat() {
        for (String call : new String[] {"abort", "recover", "beat"}) {
            String promise = call.equals("abort") ? "promise 16: " : call.equals("recover") ? "promise 17: " : "promise 18: ";
            Script.play(promise + "no transaction yet", call + " 0 ! Index; " + call + " -1 ! Index");
            Script.play(promise + "the least transaction and the greatest, and the first beyond each",
                "begin 0 0 = 0; begin 0 0 = 1; " + call + " -1 ! Index; " + call + " 2 ! Index; " + call + " 0 = 0; " + call + " 1 = 0",
                call + " " + LEAST + " ! Index; " + call + " " + GREATEST + " ! Index");
            Script.play(promise + "of 40", "repeat 40 begin 0 0; " + call + " 40 ! Index; " + call + " 39 = 0; " + call + " 0 = 0");
        }
        Script.play("promise 16: ENDED for STAGED, COMMITTED and ABORTED, which it leaves so", ended("abort"));
        Script.play("promise 18: ENDED for STAGED, COMMITTED and ABORTED, which it leaves so", ended("beat"));
        Script.play("promise 17: each state",
            "begin 0 0 = 0; begin 0 0 = 1; begin 0 0 = 2; begin 0 0 = 3; put 0 1 1 = DONE; commit 0 staged = DONE; commit 1 plain = DONE; abort 2 = DONE",
            "recover 0 = COMMITTED; recover 1 = COMMITTED; recover 2 = ABORTED; recover 3 = PENDING; told 0 0 = COMMITTED; told 3 0 = PENDING");
    }

    private static String ended(String call) {
        return "begin 0 0 = 0; begin 0 0 = 1; begin 0 0 = 2; put 0 1 1 = DONE; commit 0 staged = DONE; commit 1 plain = DONE; abort 2 = DONE; "
            + call + " 0 = ENDED; " + call + " 1 = ENDED; " + call + " 2 = ENDED; told 0 0 = STAGED; told 1 0 = COMMITTED; told 2 0 = ABORTED; pass 21 = 21; told 0 6 = 1";
    }

    private static void told() {
        Script.play("promise 19: no transaction yet", "told 0 0 ! Index; told -1 0 ! Index; told 0 7 ! Index");
        Script.play("promise 19: the least transaction and the greatest, and the first beyond each",
            "begin 0 0 = 0; begin 0 0 = 1; told 0 1 = 1; told 1 1 = 2; told 2 1 ! Index; told -1 1 ! Index; told " + LEAST + " 1 ! Index; told " + GREATEST + " 1 ! Index");
        Script.play("promise 19: of 40", "repeat 40 begin 0 0; told 39 1 = 40; told 40 1 ! Index");
        Script.play("promise 19: the least what and the greatest, and the first beyond each",
            "begin 0 0 = 0; told 0 0 = PENDING; told 0 6 = 0; told 0 -1 ! Argument; told 0 7 ! Argument; told 0 " + LEAST + " ! Argument; told 0 " + GREATEST + " ! Argument");
        Script.play("promise 19: the transaction goes ahead of what", "begin 0 0 = 0; told 1 7 ! Index; told -1 -1 ! Index; told 1 -1 ! Index; told -1 7 ! Index; told 0 7 ! Argument");
        Script.play("promise 19: no key read or written, and all of 32",
            "begin 0 0 = 0; told 0 4 = 0; told 0 5 = 0; " + puts(0, 32) + "; told 0 4 = 0; told 0 5 = 32; begin 0 1 = 1; " + gets(1) + "; told 1 4 = 32; told 1 5 = 0; told 1 3 = NONE");
    }

    private static String gets(int transaction) {
        StringBuilder text = new StringBuilder();
        for (int key = 0; key < 32; key++) text.append(key == 0 ? "" : "; ").append("get ").append(transaction).append(' ').append(key).append(" = GONE");
        return text.toString();
    }

    private static void key() {
        Script.play("promise 20: the least key and the greatest, and the first beyond each",
            "key 0 4 = 0; key 31 4 = 0; key -1 4 ! Index; key 32 4 ! Index; key " + LEAST + " 4 ! Index; key " + GREATEST + " 4 ! Index");
        Script.play("promise 20: the least what and the greatest, and the first beyond each",
            "key 0 0 = 0; key 0 6 = 0; key 0 -1 ! Argument; key 0 7 ! Argument; key 31 7 ! Argument; key 0 " + LEAST + " ! Argument; key 0 " + GREATEST + " ! Argument");
        Script.play("promise 20: the key goes ahead of what", "key 32 7 ! Index; key -1 -1 ! Index; key 32 -1 ! Index; key -1 7 ! Index");
        Script.play("promise 20: the least range and the greatest, the least node and the greatest",
            splits(), "move 31 3 = 0; key 0 4 = 0; key 31 4 = 31; key 0 5 = 0; key 31 5 = 3");
    }

    private static void asOf() {
        Script.play("promise 21: the least key and the greatest, and the first beyond each",
            "asOf 0 0 = GONE; asOf 31 0 = GONE; asOf -1 0 ! Index; asOf 32 0 ! Index; asOf " + LEAST + " 0 ! Index; asOf " + GREATEST + " 0 ! Index");
        Script.play("promise 21: the least stamp and the first below", "pass 20 = 20; asOf 5 0 = GONE; asOf 5 -1 ! Argument; asOf 5 " + LEAST + " ! Argument");
        Script.play("promise 21: the closed stamp and the first beyond, where it is 0", "asOf 5 0 = GONE; asOf 5 1 ! Argument; pass 15 = 15; asOf 5 0 = GONE; asOf 5 1 ! Argument");
        Script.play("promise 21: the closed stamp and the first beyond, where it is above 0",
            "pass 16 = 16; asOf 5 10 = GONE; asOf 5 11 ! Argument; pass 1 = 17; asOf 5 20 = GONE; asOf 5 21 ! Argument; asOf 5 " + GREATEST + " ! Argument");
        Script.play("promise 21: the key goes ahead of the stamp", "asOf 32 1 ! Index; asOf -1 -1 ! Index; asOf 32 -1 ! Index; asOf -1 1 ! Index; asOf 31 1 ! Argument");
        Script.play("promise 21: a stamp that is refused, though an intent of one that is STAGED is there",
            "begin 0 0 = 0; put 0 5 1 = DONE; commit 0 staged = DONE; asOf 5 1 ! Argument; pass 16 = 16; asOf 5 11 ! Argument; asOf 5 1 = WAITS; told 0 0 = STAGED");
        Script.play("promise 21: the least value and the greatest",
            "begin 0 0 = 0; put 0 0 0 = DONE; put 0 31 999 = DONE; commit 0 plain = DONE; pass 16 = 16; asOf 0 1 = 0; asOf 31 1 = 999; asOf 0 0 = GONE; asOf 31 0 = GONE");
    }

    private static void resolved() {
        Script.play("promise 22: none is STAGED", "resolved = 0; pass 15 = 15; resolved = 0; pass 1 = 16; resolved = 10");
        Script.play("promise 22: at least 0", "begin 0 0 = 0; put 0 5 1 = DONE; commit 0 staged = DONE; told 0 2 = 1; resolved = 0; pass 50 = 50; resolved = 0");
        Script.play("promise 22: the first and the last of 40 may be STAGED",
            "repeat 40 begin 0 0; put 0 5 1 = DONE; put 39 6 1 = DONE; told 0 2 = 1; told 39 2 = 40; commit 39 staged = DONE; commit 0 staged = DONE; pass 50 = 50; resolved = 0",
            "recover 0 = COMMITTED; resolved = 39; recover 39 = COMMITTED; resolved = 350");
    }

    private static void feed() {
        Script.play("promise 23: the least place and the first below, the feed being empty",
            "feed 0 = NONE; feed -1 ! Index; feed 1 = NONE; feed " + GREATEST + " = NONE; feed " + LEAST + " ! Index");
        Script.play("promise 23: the first and the last place, and the first beyond",
            "begin 0 0 = 0; put 0 0 1 = DONE; put 0 31 1 = DONE; commit 0 plain = DONE; pass 16 = 16; feed 0 = 32; feed 1 = 63; feed 2 = NONE; feed -1 ! Index; feed " + GREATEST + " = NONE");
    }

    private static void order() {
        Script.play("promise 24: the least place and the first below, the order being empty",
            "order 0 = NONE; order -1 ! Index; order 1 = NONE; order " + GREATEST + " = NONE; order " + LEAST + " ! Index");
        Script.play("promise 24: the first and the last place of 40, and the first beyond",
            allCommitted(), "order 0 = 0; order 39 = 39; order 40 = NONE; order -1 ! Index; order " + GREATEST + " = NONE; judged = 0");
    }
}
