/**
 * The sections 'Reading' to 'The order, the feed': each sentence that names a boundary, at the boundary, at one less
 * and at one more. A node's clock is asked as often as it takes to get at a stamp.
 */
public final class BoundariesTest {
    public static void main(String[] arguments) {
        intentsInTheWay();
        versionsInTheDoubt();
        restartStamps();
        keyReadStamps();
        refreshes();
        refreshedKeys();
        restarts();
        writeStamps();
        ranksOfWriters();
        waits();
        rings();
        ringOfForty();
        commits();
        commitsOnNodesThatAreDown();
        resolvedAndFeed();
        orders();
        stampsAsOf();
        Script.end("BoundariesTest");
    }

    // ---- Reading

    private static void intentsInTheWay() {
        // The transaction 0 has the read stamp 1, and the doubt 2 on the node 0.
        String doubt = "begin 2 1 = 0; told 0 1 = 1; get 0 9 = GONE; clock 0 = 3";
        Script.play("an intent at the doubt there", doubt, "begin 2 1 = 1; told 1 2 = 2; put 1 3 7 = DONE; get 0 3 = WAITS; told 0 3 = 1");
        Script.play("an intent 1 above the doubt there", doubt, "clock 2 = 2; begin 2 1 = 1; told 1 2 = 3; put 1 3 7 = DONE; get 0 3 = GONE; told 0 3 = NONE; told 1 2 = 3");
        Script.play("an intent 1 below the doubt there", doubt, "begin 1 1 = 1; told 1 2 = 1; put 1 3 7 = DONE; get 0 3 = WAITS");
        // The transaction 0 has the read stamp 50, and the doubt 2 on the node 0 yet; the rank 1.
        String beyond = "skew 1 5 = 0; split 16 = 2; move 1 3 = 0; begin 2 1 = 0; get 0 9 = GONE; clock 0 = 3; begin 1 0 = 1; put 1 20 7 = DONE; commit 1 plain = DONE; get 0 20 = 7; told 0 1 = 50";
        Script.play("an intent at the read stamp, which is above the doubt there", beyond, "skew 2 5 = 0; begin 2 1 = 2; told 2 2 = 50; put 2 3 7 = DONE; get 0 3 = WAITS; told 0 3 = 2");
        Script.play("an intent 1 above the read stamp, which is above the doubt there", beyond, "begin 1 1 = 2; told 2 2 = 51; put 2 3 7 = DONE; get 0 3 = GONE; told 0 3 = NONE; told 2 2 = 51");
        Script.play("pushed to 1 more than the read stamp, which is above the doubt there", beyond,
            "skew 2 5 = 0; begin 2 0 = 2; put 2 3 7 = DONE; told 2 2 = 50; get 0 3 = GONE; told 2 2 = 51; told 2 1 = 50; get 0 3 = GONE; told 2 2 = 51");
        Script.play("pushed to 1 more than the doubt there", doubt,
            "begin 2 0 = 1; put 1 3 7 = DONE; told 1 2 = 2; get 0 3 = GONE; told 1 2 = 3; told 1 1 = 2; told 0 1 = 1; key 3 2 = 1; commit 1 plain = DONE; get 0 3 = GONE");
        Script.play("pushed from far below", doubt, "begin 1 0 = 1; put 1 3 7 = DONE; told 1 2 = 1; get 0 3 = GONE; told 1 2 = 3");
        Script.play("a rank greater by 1 pushes, the same one and one less by 1 wait",
            "begin 0 5 = 0; put 0 3 7 = DONE; begin 0 5 = 1; begin 0 4 = 2; begin 0 6 = 3; get 1 3 = WAITS; get 2 3 = WAITS; told 0 2 = 1; get 3 3 = GONE; told 0 2 = 9; told 0 0 = PENDING");
        Script.play("the least rank and the greatest: pushes, and waits",
            "begin 0 0 = 0; begin 0 9 = 1; put 0 3 7 = DONE; put 1 4 7 = DONE; get 0 4 = WAITS; get 1 3 = GONE; told 0 0 = PENDING; told 0 2 = 5");
        // The transaction 0 has the read stamp 1, the write stamp 6, and the doubt 2 on the node 0.
        String writer = "begin 2 0 = 0; get 0 9 = GONE; repeat 4 clock 1; begin 1 0 = 1; told 1 1 = 5; get 1 8 = GONE; put 0 8 1 = DONE; told 0 1 = 1; told 0 2 = 6";
        Script.play("the read stamp counts, not the write stamp: an intent between them is not in the way, nor is a version read", writer,
            "repeat 3 clock 3; begin 3 9 = 2; put 2 3 7 = DONE; told 2 2 = 4; get 0 3 = GONE; key 3 2 = 1; commit 2 plain = DONE; told 2 2 = 4; get 0 3 = GONE; told 0 1 = 1");
        Script.play("the other one's write stamp counts, not its read stamp",
            "begin 3 0 = 0; get 0 9 = GONE; begin 2 0 = 1; told 1 1 = 1; repeat 4 clock 1; begin 1 0 = 2; get 2 8 = GONE; put 1 8 1 = DONE; told 1 1 = 1; told 1 2 = 6",
            "get 0 8 = GONE; told 0 3 = NONE; told 1 2 = 6");
    }

    private static void versionsInTheDoubt() {
        // The transaction 0 has the read stamp 1, and the doubt 3 on the node 0; there are versions at 1 to 4.
        String four = "begin 2 0 = 0; repeat 2 clock 0; get 0 9 = GONE; begin 1 0 = 1; begin 1 0 = 2; begin 1 0 = 3; begin 1 0 = 4; told 1 1 = 1; told 4 1 = 4";
        String apart = "put 1 1 61 = DONE; put 2 2 62 = DONE; put 3 3 63 = DONE; put 4 4 64 = DONE; commit 1 plain = DONE; commit 2 plain = DONE; commit 3 plain = DONE; commit 4 plain = DONE";
        Script.play("a version at the read stamp raises nothing", four, apart, "get 0 1 = 61; told 0 1 = 1; told 0 2 = 1");
        Script.play("a version 1 above the read stamp raises it", four, apart, "get 0 2 = 62; told 0 1 = 2; told 0 2 = 2; key 9 2 = 2; key 2 2 = 2");
        Script.play("a version at the doubt there raises it", four, apart, "get 0 3 = 63; told 0 1 = 3; told 0 2 = 3");
        Script.play("a version 1 above the doubt there doesn't", four, apart, "get 0 4 = GONE; told 0 1 = 1; told 0 2 = 1; told 0 4 = 2");
        String same = "put 1 5 61 = DONE; commit 1 plain = DONE; put 2 5 62 = DONE; commit 2 plain = DONE; put 3 5 63 = DONE; commit 3 plain = DONE; put 4 5 64 = DONE; commit 4 plain = DONE; key 5 0 = 4";
        Script.play("the latest such version: not the first one, nor that above the doubt", four, same, "get 0 5 = 63; told 0 1 = 3; key 9 2 = 3; key 9 3 = 0");
        Script.play("the latest version that is not above the read stamp: at it, 1 above it",
            "begin 1 0 = 0; begin 1 0 = 1; begin 1 0 = 2; put 0 5 61 = DONE; put 1 6 62 = DONE; commit 0 plain = DONE; commit 1 plain = DONE; put 2 5 63 = DONE; put 2 6 64 = DONE",
            "begin 2 9 = 3; told 3 1 = 1; begin 2 9 = 4; told 4 1 = 2; begin 2 9 = 5; told 5 1 = 3; commit 2 staged = DONE; recover 2 = COMMITTED; get 5 5 = 63; get 5 6 = 64; told 5 1 = 3");
        Script.play("GONE without one, GONE of one that was gone, GONE where all are above", four, same,
            "begin 3 0 = 5; get 5 8 = GONE; get 0 4 = GONE; begin 0 0 = 6; put 6 5 GONE = DONE; commit 6 plain = DONE; begin 0 0 = 7; get 7 5 = GONE; key 5 0 = 5");
    }

    private static void restartStamps() {
        // A version at 150 on the node 3, and one at a key that the transaction 2 has read; its write stamp is set by a read.
        String restart = "skew 1 5 = 0; split 16 = 2; move 1 3 = 0; pass 10 = 10; begin 1 0 = 0; told 0 1 = 150; begin 2 0 = 1; begin 2 0 = 2; told 2 1 = 101; get 2 1 = GONE";
        String version = "put 0 1 7 = DONE; put 0 20 8 = DONE; commit 0 plain = DONE; told 0 2 = 150";
        Script.play("a RESTART: the write stamp is less by 1 than that stamp", restart, version,
            "skew 2 4 = 0; repeat 8 clock 2; begin 2 0 = 3; told 3 1 = 148; get 3 4 = GONE; put 2 4 1 = DONE; told 2 2 = 149; get 2 20 = RESTART; told 2 1 = 150; told 2 2 = 150");
        Script.play("a RESTART: the write stamp is the same", restart, version,
            "skew 2 4 = 0; repeat 9 clock 2; begin 2 0 = 3; told 3 1 = 149; get 3 4 = GONE; put 2 4 1 = DONE; told 2 2 = 150; get 2 20 = RESTART; told 2 1 = 150; told 2 2 = 150");
        Script.play("a RESTART: the write stamp is greater by 1", restart, version,
            "skew 2 5 = 0; begin 2 0 = 3; told 3 1 = 150; get 3 4 = GONE; put 2 4 1 = DONE; told 2 2 = 151; get 2 20 = RESTART; told 2 1 = 151; told 2 2 = 151");
    }

    private static void keyReadStamps() {
        // The transactions 0 and 1 have the read stamp 1, 2 and 3 the read stamp 2.
        String readers = "begin 1 0 = 0; begin 2 0 = 1; begin 1 0 = 2; begin 2 0 = 3; told 0 1 = 1; told 1 1 = 1; told 2 1 = 2; told 3 1 = 2";
        Script.play("a key's read stamp: greater than the one before, by it", readers, "get 0 5 = GONE; key 5 2 = 1; key 5 3 = 0; get 2 5 = GONE; key 5 2 = 2; key 5 3 = 2");
        Script.play("a key's read stamp: the same, and another one's, by several", readers, "get 0 5 = GONE; get 1 5 = GONE; key 5 2 = 1; key 5 3 = SEVERAL");
        Script.play("a key's read stamp: the same, and its own", readers, "get 0 5 = GONE; get 0 5 = GONE; key 5 2 = 1; key 5 3 = 0");
        Script.play("a key's read stamp: the same, and by several yet", readers, "get 0 5 = GONE; get 1 5 = GONE; get 0 5 = GONE; key 5 3 = SEVERAL; get 2 5 = GONE; key 5 3 = 2; get 3 5 = GONE; key 5 3 = SEVERAL");
        Script.play("a key's read stamp: less than the one before", readers, "get 2 5 = GONE; get 0 5 = GONE; get 1 5 = GONE; key 5 2 = 2; key 5 3 = 2");
        Script.play("a key's read stamp: greater than one by several", readers, "get 0 5 = GONE; get 1 5 = GONE; get 3 5 = GONE; key 5 2 = 2; key 5 3 = 3");
        Script.play("a key's read stamp: that of a move, by several", readers, "move 0 3 = 0; key 5 2 = 1; get 0 5 = GONE; key 5 2 = 1; key 5 3 = SEVERAL; get 2 5 = GONE; key 5 2 = 2; key 5 3 = 2");
    }

    /** The transaction 0 has the read stamp 1, and the write stamp 6, to which a commit refreshes its reads. */
    private static String toSix(String reads) {
        return "begin 2 5 = 0; " + reads + "; repeat 4 clock 1; begin 1 0 = 1; told 1 1 = 5; get 1 8 = GONE; put 0 8 1 = DONE; told 0 1 = 1; told 0 2 = 6";
    }

    private static void refreshes() {
        String read3 = toSix("get 0 3 = GONE");
        Script.play("no reads at all", toSix("clock 3 = 1"), "commit 0 plain = DONE; told 0 1 = 6; told 0 4 = 0");
        Script.play("a read key without a version", read3, "commit 0 plain = DONE; told 0 1 = 6; key 3 2 = 6; key 3 3 = 0");
        Script.play("a version 1 above the read stamp", read3, "begin 3 0 = 2; put 2 3 7 = DONE; told 2 2 = 2; commit 2 plain = DONE; commit 0 plain = RESTART; told 0 1 = 6; key 3 2 = 1");
        Script.play("a version at the stamp", read3, "repeat 5 clock 3; begin 3 0 = 2; put 2 3 7 = DONE; told 2 2 = 6; commit 2 plain = DONE; commit 0 plain = RESTART; told 0 1 = 6");
        Script.play("a version 1 above the stamp", read3, "repeat 6 clock 3; begin 3 0 = 2; put 2 3 7 = DONE; told 2 2 = 7; commit 2 plain = DONE; commit 0 plain = DONE; key 3 2 = 6; judged = 0");
        Script.play("a version at the read stamp", "begin 3 0 = 0; told 0 1 = 1; put 0 3 7 = DONE; commit 0 plain = DONE; begin 2 0 = 1; told 1 1 = 1; get 1 3 = 7; told 1 1 = 1",
            "repeat 4 clock 1; begin 1 0 = 2; get 2 8 = GONE; put 1 8 1 = DONE; told 1 2 = 6; commit 1 plain = DONE; key 3 2 = 6; key 3 3 = 1");
        Script.play("a version at the stamp, and one above it", read3, "repeat 5 clock 3; begin 3 0 = 2; begin 3 0 = 3; put 2 3 7 = DONE; commit 2 plain = DONE; put 3 3 8 = DONE; told 3 2 = 7",
            "commit 3 plain = DONE; commit 0 plain = RESTART");
        Script.play("an intent in the way at the stamp, of a lower rank", read3, "repeat 5 clock 3; begin 3 0 = 2; put 2 3 7 = DONE; told 2 2 = 6; commit 0 plain = RESTART; told 2 0 = PENDING; told 2 2 = 6; told 0 3 = NONE");
        Script.play("an intent in the way 1 above the read stamp", read3, "begin 3 9 = 2; put 2 3 7 = DONE; told 2 2 = 2; commit 0 plain = RESTART; told 2 2 = 2");
        Script.play("an intent 1 above the stamp", read3, "repeat 6 clock 3; begin 3 9 = 2; put 2 3 7 = DONE; told 2 2 = 7; commit 0 plain = DONE; told 2 0 = PENDING; key 3 1 = 2; key 3 2 = 6");
        Script.play("an intent whose write stamp is above the stamp, its read stamp is not", read3,
            "begin 3 9 = 2; told 2 1 = 1; repeat 6 clock 1; begin 1 0 = 3; told 3 1 = 12; get 3 7 = GONE; put 2 7 1 = DONE; told 2 2 = 13; put 2 3 1 = DONE; commit 0 plain = DONE; told 2 1 = 1");
        Script.play("its own intent is none", toSix("get 0 3 = GONE; put 0 3 1 = DONE"), "commit 0 plain = DONE; key 3 0 = 1; key 3 2 = 6");
        Script.play("an intent that was STAGED leaves a version at the stamp", read3, "repeat 5 clock 3; begin 3 0 = 2; put 2 3 7 = DONE; commit 2 staged = DONE; commit 0 plain = RESTART; told 2 0 = COMMITTED");
        Script.play("an intent that was STAGED leaves a version 1 above the stamp", read3, "repeat 6 clock 3; begin 3 0 = 2; put 2 3 7 = DONE; commit 2 staged = DONE; commit 0 plain = DONE; told 2 0 = COMMITTED; key 3 0 = 1");
        Script.play("an intent that was STAGED without one of its own is gone", "split 16 = 2; " + read3,
            "move 1 3 = 0; begin 3 0 = 2; put 2 3 7 = DONE; put 2 20 7 = DONE; commit 2 staged = DONE; down 3 = 1; commit 0 plain = DONE; told 2 0 = ABORTED; key 3 1 = NONE");
        Script.play("an intent of one that is ABORTED is gone", read3, "begin 3 0 = 2; put 2 3 7 = DONE; abort 2 = DONE; commit 0 plain = DONE; key 3 1 = NONE; key 3 2 = 6");
        Script.play("an intent of one that is alive, 20 ticks behind",
            "begin 3 0 = 0; pass 5 = 5; begin 2 0 = 1; get 1 3 = GONE; put 0 3 7 = DONE; told 0 2 = 51; pass 15 = 20; put 1 8 1 = DONE; commit 1 plain = RESTART; told 0 0 = PENDING");
        Script.play("an intent of one that is vanished, 21 ticks behind, is gone",
            "begin 3 0 = 0; pass 5 = 5; begin 2 0 = 1; get 1 3 = GONE; put 0 3 7 = DONE; told 0 2 = 51; pass 16 = 21; put 1 8 1 = DONE; commit 1 plain = DONE; told 0 0 = ABORTED; key 3 1 = NONE");
        Script.play("a read key's node is down, that of the first key and that of the last one",
            "split 1 = 2; split 31 = 3; move 0 1 = 0; move 2 2 = 0; begin 3 0 = 0; begin 3 0 = 1; get 0 0 = GONE; get 1 31 = GONE; begin 3 0 = 2; begin 3 0 = 3; get 3 8 = GONE; get 3 9 = GONE",
            "put 0 8 1 = DONE; put 1 9 1 = DONE; told 0 2 = 5; told 1 2 = 5; down 1 = 0; down 2 = 0; commit 0 plain = RESTART; commit 1 plain = RESTART; told 1 1 = 5");
        Script.play("a node without a read key may be down", "split 16 = 2; move 1 1 = 0; " + toSix("get 0 3 = GONE"), "down 1 = 0; commit 0 plain = DONE");
        Script.play("a read key's node is down: its intent is not met by that",
            "split 1 = 2; move 0 1 = 0; begin 3 0 = 0; get 0 0 = GONE; begin 2 0 = 1; put 1 0 1 = DONE; sync 1 = 1; abort 1 = DONE; begin 3 0 = 2; get 2 8 = GONE; put 0 8 1 = DONE",
            "down 1 = 0; commit 0 plain = RESTART; key 0 1 = 1");
    }

    private static void refreshedKeys() {
        String staged = "; begin 3 0 = 2; repeat 9 clock 3; begin 3 0 = 3; told 3 1 = 11; put 3 5 7 = DONE; commit 3 staged = DONE";
        Script.play("by rising numbers: behind the first one for which it cannot be done no intent is met", toSix("get 0 5 = GONE; get 0 3 = GONE") + staged,
            "put 2 3 7 = DONE; commit 2 plain = DONE; commit 0 plain = RESTART; told 3 0 = STAGED; key 5 1 = 3");
        Script.play("by rising numbers: ahead of it they are met", toSix("get 0 6 = GONE; get 0 5 = GONE") + staged,
            "put 2 6 7 = DONE; commit 2 plain = DONE; commit 0 plain = RESTART; told 3 0 = COMMITTED; key 5 1 = NONE; key 5 2 = 1");
        Script.play("by rising numbers: behind one whose node is down", "split 4 = 2; move 0 3 = 0", toSix("get 0 5 = GONE; get 0 3 = GONE"),
            "repeat 9 clock 3; begin 3 0 = 2; put 2 5 7 = DONE; commit 2 staged = DONE; down 3 = 0; commit 0 plain = RESTART; told 2 0 = STAGED; get 0 5 = GONE; told 2 0 = COMMITTED");
        Script.play("by rising numbers: behind one with an intent in the way", toSix("get 0 5 = GONE; get 0 3 = GONE") + staged, "put 2 3 7 = DONE; commit 0 plain = RESTART; told 3 0 = STAGED");
        Script.play("if it can be done, all are met, the first key and the last one among them",
            toSix("get 0 31 = GONE; get 0 0 = GONE"), "repeat 6 clock 3; begin 3 0 = 2; begin 3 0 = 3; put 2 0 7 = DONE; put 3 31 7 = DONE; commit 2 staged = DONE; commit 3 staged = DONE",
            "commit 0 plain = DONE; told 2 0 = COMMITTED; told 3 0 = COMMITTED; key 0 2 = 6; key 31 2 = 6");
        Script.play("then the read stamps: less, the same by another one, greater", toSix("get 0 3 = GONE; get 0 4 = GONE; get 0 5 = GONE"),
            "begin 1 0 = 2; begin 1 0 = 3; told 2 1 = 6; told 3 1 = 7; repeat 5 clock 3; begin 3 0 = 4; told 4 1 = 6; get 4 4 = GONE; get 3 5 = GONE; commit 0 plain = DONE",
            "key 3 2 = 6; key 3 3 = 0; key 4 2 = 6; key 4 3 = SEVERAL; key 5 2 = 7; key 5 3 = 3; key 8 2 = 5; key 8 3 = 1; key 6 2 = 0");
        Script.play("where it cannot be done, no read stamp is raised", toSix("get 0 3 = GONE; get 0 5 = GONE"),
            "begin 3 0 = 2; put 2 5 7 = DONE; commit 0 plain = RESTART; key 3 2 = 1; key 3 3 = 0; key 5 2 = 1");
    }

    private static void restarts() {
        String read3 = toSix("get 0 3 = GONE") + "; begin 3 0 = 2; put 2 3 7 = DONE; commit 2 plain = DONE";
        Script.play("a RESTART: all its intents are gone, sure or not, on a node that is down, too",
            "split 16 = 2; move 1 3 = 0; " + toSix("get 0 3 = GONE; put 0 0 1 = DONE; put 0 15 1 = DONE; sync 0 = 2; put 0 7 1 = DONE") + "; put 0 31 1 = DONE; sync 3 = 1",
            "skew 1 5 = 0; begin 1 0 = 2; put 2 3 7 = DONE; put 2 12 8 = DONE; commit 2 plain = DONE; down 3 = 0; told 0 5 = 5; get 0 12 = GONE; commit 0 plain = DOWN; key 31 1 = 0; up 3 = 3",
            "get 0 3 = GONE; pass 21 = 21; commit 0 plain = RESTART; key 0 1 = NONE; key 7 1 = NONE; key 8 1 = NONE; key 15 1 = NONE; key 31 1 = NONE");
        Script.play("a RESTART of a get: its intents on a node that is down are gone, too",
            "skew 1 5 = 0; split 16 = 2; split 24 = 3; move 1 3 = 0; move 2 2 = 0; begin 0 0 = 0; get 0 1 = GONE; put 0 30 1 = DONE; sync 2 = 1; begin 1 0 = 1; put 1 1 7 = DONE; put 1 20 8 = DONE",
            "commit 1 plain = DONE; down 2 = 0; key 30 1 = 0; get 0 20 = RESTART; key 30 1 = NONE; key 30 6 = 0; told 0 5 = 0");
        Script.play("a RESTART: it has read and written nothing, the write stamp is as the read stamp, it is PENDING", read3,
            "commit 0 plain = RESTART; told 0 0 = PENDING; told 0 1 = 6; told 0 2 = 6; told 0 3 = NONE; told 0 4 = 0; told 0 5 = 0; told 0 6 = 0; key 8 1 = NONE");
        Script.play("a RESTART: where it asked clocks stays, so the clock is not asked once more", read3, "clock 0 = 8; commit 0 plain = RESTART; get 0 3 = 7; clock 0 = 9");
        Script.play("a RESTART: its doubt stays: a version above the read stamp and above the doubt there", read3,
            "commit 0 plain = RESTART; repeat 5 clock 3; begin 3 0 = 3; put 3 4 9 = DONE; told 3 2 = 7; commit 3 plain = DONE; get 0 4 = GONE; told 0 1 = 6");
        Script.play("a RESTART: other transactions' intents stay", read3, "begin 3 0 = 3; put 3 4 1 = DONE; commit 0 plain = RESTART; key 4 1 = 3");
        Script.play("a RESTART: its own write is not there any more, the key gives a version", read3, "commit 0 plain = RESTART; get 0 8 = GONE; told 0 4 = 1; key 8 2 = 6");
    }

    // ---- Writing

    private static void writeStamps() {
        // There are versions at 1 to 4, of the keys 1 to 4; the transaction 4 has the stamps 3.
        String four = "begin 1 0 = 0; begin 1 0 = 1; begin 1 0 = 2; begin 1 0 = 3; put 0 1 7 = DONE; put 1 2 7 = DONE; put 2 3 7 = DONE; put 3 4 7 = DONE; "
            + "commit 0 plain = DONE; commit 1 plain = DONE; commit 2 plain = DONE; commit 3 plain = DONE; repeat 2 clock 2; begin 2 0 = 4; told 4 2 = 3";
        Script.play("1 more than the latest version's stamp: less than the write stamp", four, "put 4 1 8 = DONE; told 4 2 = 3");
        Script.play("1 more than the latest version's stamp: the same", four, "put 4 2 8 = DONE; told 4 2 = 3");
        Script.play("1 more than the latest version's stamp: greater by 1", four, "put 4 3 8 = DONE; told 4 2 = 4; told 4 1 = 3");
        Script.play("1 more than the latest version's stamp: greater by 2", four, "put 4 4 8 = DONE; told 4 2 = 5; told 4 1 = 3; put 4 3 8 = DONE; told 4 2 = 5");
        Script.play("the latest one of several", four, "begin 1 0 = 5; told 5 2 = 5; put 5 1 9 = DONE; commit 5 plain = DONE; key 1 0 = 2; put 4 1 8 = DONE; told 4 2 = 6");
        Script.play("no version, not read", four, "put 4 9 8 = DONE; told 4 2 = 3");
        // The keys 1 to 4 are read at 1 to 4; the transaction 4 has the stamps 3.
        String reads = "begin 1 0 = 0; begin 1 0 = 1; begin 1 0 = 2; begin 1 0 = 3; get 0 1 = GONE; get 1 2 = GONE; get 2 3 = GONE; get 3 4 = GONE; repeat 2 clock 2; begin 2 0 = 4; told 4 2 = 3";
        Script.play("1 more than the read stamp of the key: less than the write stamp", reads, "put 4 1 8 = DONE; told 4 2 = 3");
        Script.play("1 more than the read stamp of the key: the same", reads, "put 4 2 8 = DONE; told 4 2 = 3");
        Script.play("1 more than the read stamp of the key: greater by 1", reads, "put 4 3 8 = DONE; told 4 2 = 4");
        Script.play("1 more than the read stamp of the key: greater by 2", reads, "put 4 4 8 = DONE; told 4 2 = 5");
        Script.play("but if just it read it so", reads, "get 4 1 = GONE; key 1 3 = 4; put 4 1 8 = DONE; told 4 2 = 3; get 4 9 = GONE; put 4 9 8 = DONE; told 4 2 = 3");
        Script.play("not if others did, too, or before", reads, "get 4 3 = GONE; key 3 3 = SEVERAL; put 4 3 8 = DONE; told 4 2 = 4");
        Script.play("not if it read it so, and then another one at a greater stamp", reads, "get 4 9 = GONE; get 3 9 = GONE; key 9 3 = 3; put 4 9 8 = DONE; told 4 2 = 5");
        Script.play("if just it read it so, the latest version counts yet", four, "begin 3 9 = 5; get 4 3 = 7; key 3 3 = 4; put 4 3 8 = DONE; told 4 2 = 4");
        Script.play("both are there: the greater one counts", four, "begin 1 0 = 5; told 5 1 = 5; get 5 3 = 7; put 4 3 8 = DONE; told 4 2 = 6; begin 1 0 = 6; get 6 1 = 7; begin 3 0 = 7; put 7 1 8 = DONE; told 7 2 = 7");
        Script.play("no wait raises it, nor is there an intent by it", reads, "begin 3 0 = 5; put 5 4 1 = DONE; told 5 2 = 5; put 4 4 8 = WAITS; told 4 2 = 3; told 4 5 = 0; key 4 1 = 5");
    }

    private static void ranksOfWriters() {
        String intent = "begin 0 5 = 0; put 0 3 7 = DONE; sync 0 = 1";
        Script.play("a rank greater by 1", intent, "begin 0 6 = 1; put 1 3 8 = DONE; told 0 0 = ABORTED; key 3 1 = 1; key 3 6 = 0");
        Script.play("the same rank", intent, "begin 0 5 = 1; put 1 3 8 = WAITS; told 0 0 = PENDING; key 3 1 = 0; key 3 6 = 1; told 1 3 = 0");
        Script.play("a rank less by 1", intent, "begin 0 4 = 1; put 1 3 8 = WAITS; told 0 0 = PENDING; key 3 1 = 0");
        Script.play("a greater rank, whatever the write stamps", "skew 1 5 = 0; begin 1 0 = 0; put 0 3 7 = DONE; told 0 2 = 50; begin 2 1 = 1; told 1 2 = 1; put 1 3 8 = DONE; told 0 0 = ABORTED; told 1 2 = 1");
        Script.play("the same rank, whatever the write stamps", "skew 1 5 = 0; begin 1 0 = 0; put 0 3 7 = DONE; told 0 2 = 50; begin 2 0 = 1; told 1 2 = 1; put 1 3 8 = WAITS; get 1 3 = WAITS");
        Script.play("its own intent is in nobody's way", intent, "put 0 3 8 = DONE; key 3 6 = 0; told 0 5 = 1");
    }

    // ---- Waiting

    private static void waits() {
        // The transaction 1 waits for the transaction 0, at the key 1; it writes the key 9, on the node 1.
        String wait = "split 8 = 2; move 1 1 = 0; begin 2 1 = 0; begin 2 1 = 1; put 0 1 5 = DONE; put 1 9 5 = DONE; put 1 1 6 = WAITS; told 1 3 = 0";
        Script.play("until it asks by get()", wait, "get 1 10 = GONE; told 1 3 = NONE");
        Script.play("until it asks by get(), for a key that it writes itself", wait, "get 1 9 = 5; told 1 3 = NONE");
        Script.play("until it asks by put()", wait, "put 1 10 1 = DONE; told 1 3 = NONE");
        Script.play("until it asks by put(), and waits for another one", wait, "begin 2 1 = 2; put 2 2 1 = DONE; put 1 2 1 = WAITS; told 1 3 = 2");
        Script.play("until it asks by commit(), plainly or staged", wait, "commit 1 staged = DONE; told 1 3 = NONE; told 1 0 = STAGED");
        Script.play("until it asks by commit(), that is a RESTART", wait, "begin 2 1 = 2; get 2 20 = GONE; get 1 22 = GONE; put 1 20 5 = DONE; put 2 22 1 = DONE; put 1 1 6 = WAITS; told 1 3 = 0; commit 1 plain = RESTART; told 1 3 = NONE");
        Script.play("until it asks by commit(), that is ENDED", wait, "down 1 = 1; up 1; told 1 3 = 0; commit 1 plain = ENDED; told 1 3 = NONE; told 1 0 = ABORTED");
        Script.play("not if that is answered DOWN, by get()", wait, "down 1 = 1; get 1 9 = DOWN; told 1 3 = 0; down 2 = 0; get 1 2 = DOWN; told 1 3 = 0");
        Script.play("not if that is answered DOWN, by put()", wait, "down 1 = 1; put 1 9 1 = DOWN; told 1 3 = 0; down 2 = 0; put 1 2 1 = DOWN; told 1 3 = 0");
        Script.play("not if that is answered DOWN, by commit()", wait, "down 1 = 1; commit 1 plain = DOWN; told 1 3 = 0; up 1; down 2 = 0; commit 1 staged = DOWN; told 1 3 = 0");
        Script.play("not by beat(), recover() or questions", wait, "beat 1 = DONE; recover 1 = PENDING; recover 0 = PENDING; told 1 3 = 0; beat 0 = DONE; told 1 3 = 0");
        Script.play("until it ends by abort()", wait, "abort 1 = DONE; told 1 3 = NONE");
        Script.play("until it ends, since a greater rank writes", wait, "begin 2 2 = 2; put 2 9 1 = DONE; told 1 0 = ABORTED; told 1 3 = NONE");
        Script.play("until it ends, since it was vanished and met", wait, "pass 21 = 21; begin 2 0 = 2; told 1 3 = 0; get 2 9 = GONE; told 1 0 = ABORTED; told 1 3 = NONE; told 0 0 = PENDING");
        Script.play("until that one is COMMITTED", wait, "commit 0 plain = DONE; told 1 3 = NONE");
        Script.play("until that one is STAGED", wait, "commit 0 staged = DONE; told 1 3 = NONE");
        Script.play("until that one is ABORTED by abort()", wait, "abort 0 = DONE; told 1 3 = NONE; told 1 0 = PENDING; key 1 1 = 0");
        Script.play("until that one is ABORTED by a greater rank", wait, "begin 2 2 = 2; put 2 1 1 = DONE; told 1 3 = NONE");
        Script.play("until that one is ABORTED, since it was vanished and met", wait, "pass 21 = 21; told 0 6 = 1; told 1 3 = 0; begin 2 0 = 2; get 2 1 = GONE; told 0 0 = ABORTED; told 1 3 = NONE");
        Script.play("it waits on where the intent is gone by a RESTART, or lost", wait, "down 0 = 1; key 1 1 = NONE; told 1 3 = 0; up 0; told 1 3 = 0; put 0 1 5 = DONE; told 1 3 = 0");
    }

    private static void rings() {
        // Each of the first ones has an intent at the key of its number.
        String two = "begin 0 1 = 0; begin 0 1 = 1; put 0 0 7 = DONE; put 1 1 7 = DONE";
        String three = two + "; begin 0 1 = 2; put 2 2 7 = DONE";
        Script.play("a ring of two, closed by put() of the greatest number", two, "put 0 1 8 = WAITS; put 1 0 8 = ENDED; told 1 0 = ABORTED; told 0 0 = PENDING; told 0 3 = NONE; key 1 1 = 1");
        Script.play("a ring of two, closed by put() of the least number", two, "put 1 0 8 = WAITS; put 0 1 8 = DONE; told 1 0 = ABORTED; told 0 0 = PENDING; told 0 3 = NONE; key 1 1 = 0");
        Script.play("a ring of two, closed by get() of the greatest number", two, "get 0 1 = WAITS; get 1 0 = ENDED; told 1 0 = ABORTED; told 1 4 = 0; key 0 2 = 0");
        Script.play("a ring of two, closed by get() of the least number", two, "get 1 0 = WAITS; get 0 1 = GONE; told 1 0 = ABORTED; told 0 4 = 1; key 1 1 = NONE");
        Script.play("a ring of three, closed by the greatest number", three, "put 0 1 8 = WAITS; put 1 2 8 = WAITS; put 2 0 8 = ENDED; told 2 0 = ABORTED; told 0 3 = 1; told 1 3 = NONE");
        Script.play("a ring of three, closed by the one between: that goes on", three, "put 2 0 8 = WAITS; put 0 1 8 = WAITS; put 1 2 8 = DONE; told 2 0 = ABORTED; told 0 3 = 1; told 1 3 = NONE; key 2 1 = 1");
        Script.play("a ring of three, closed by the least number: that goes on, and waits anew", three, "put 1 2 8 = WAITS; put 2 0 8 = WAITS; put 0 1 8 = WAITS; told 2 0 = ABORTED; told 0 3 = 1; told 1 3 = NONE; told 1 0 = PENDING");
        Script.play("a ring of three the other way round", three, "put 0 2 8 = WAITS; put 2 1 8 = WAITS; put 1 0 8 = WAITS; told 2 0 = ABORTED; told 1 3 = 0; told 0 3 = NONE; put 0 2 8 = DONE");
        Script.play("a chain of three is none", three, "put 0 1 8 = WAITS; put 1 2 8 = WAITS; told 0 3 = 1; told 1 3 = 2; told 2 3 = NONE; put 2 9 1 = DONE");
        Script.play("one behind the ring waits on", three, "put 2 1 8 = WAITS; put 1 0 8 = WAITS; put 0 1 8 = DONE; told 1 0 = ABORTED; told 2 3 = NONE; told 2 0 = PENDING; put 2 1 8 = WAITS; told 2 3 = 0");
        Script.play("one that waits into a ring's place is not of it", three, "put 2 0 8 = WAITS; put 1 0 8 = WAITS; put 0 1 8 = DONE; told 1 0 = ABORTED; told 2 0 = PENDING; told 2 3 = 0");
        Script.play("a ring by a wait of one that is vanished, not met by that", two, "put 1 0 8 = WAITS; pass 20 = 20; beat 0 = DONE; pass 1 = 21; told 1 6 = 1; get 0 1 = GONE; told 1 0 = ABORTED");
        Script.play("a wait that ended closes none", two, "put 0 1 8 = WAITS; get 0 9 = GONE; put 1 0 8 = WAITS; told 1 3 = 0; told 0 0 = PENDING; told 1 0 = PENDING");
        Script.play("a ring in the rank 9, and in the rank 0",
            "begin 0 9 = 0; begin 0 9 = 1; begin 0 0 = 2; begin 0 0 = 3; put 0 0 7 = DONE; put 1 1 7 = DONE; put 2 2 7 = DONE; put 3 3 7 = DONE; put 0 1 8 = WAITS; put 1 0 8 = ENDED; put 3 2 8 = WAITS; put 2 3 8 = DONE",
            "told 1 0 = ABORTED; told 3 0 = ABORTED");
    }

    /** All 40 in one ring: where the keys don't suffice, intents are lost, and their waits go on. */
    private static void ringOfForty() {
        String[] lines = new String[6];
        lines[0] = "split 31 = 2; move 1 2 = 0; repeat 40 begin 3 1";
        StringBuilder intents = new StringBuilder();
        StringBuilder waits = new StringBuilder();
        StringBuilder last = new StringBuilder("down 0 = 31; up 0; told 1 3 = 0; told 31 3 = 30");
        for (int t = 0; t < 32; t++) {
            intents.append(t == 0 ? "" : "; ").append("put ").append(t).append(' ').append(t).append(" 7 = DONE");
            if (t > 0) waits.append(t == 1 ? "" : "; ").append("put ").append(t).append(' ').append(t - 1).append(" 8 = WAITS");
        }
        for (int t = 32; t < 40; t++) {
            last.append("; put ").append(t).append(' ').append(t - 32).append(" 7 = DONE");
            last.append("; put ").append(t).append(' ').append(t == 32 ? 31 : t - 33).append(" 8 = WAITS; told ").append(t).append(" 3 = ").append(t - 1);
        }
        lines[1] = intents.toString();
        lines[2] = waits.toString();
        lines[3] = last.toString();
        lines[4] = "put 0 7 9 = DONE; told 39 0 = ABORTED; key 7 1 = 0; told 0 0 = PENDING; told 0 3 = NONE; told 38 0 = PENDING; told 38 3 = 37";
        lines[5] = "told 1 3 = 0; told 1 0 = PENDING; put 0 6 9 = DONE; told 38 0 = ABORTED; told 37 0 = PENDING";
        Script.play("a ring of 40", lines);
    }

    // ---- Committing

    private static void commits() {
        // The transactions 0 to 2 have the stamps 50 to 52; the closed stamp is 50 then.
        String three = "pass 5 = 5; begin 0 0 = 0; begin 0 0 = 1; begin 0 0 = 2; told 0 2 = 50; told 2 2 = 52";
        Script.play("1 more than the closed stamp: greater than the write stamp", three, "put 0 1 7 = DONE; pass 15 = 20; closed = 50; commit 0 plain = DONE; told 0 2 = 51; told 0 1 = 51");
        Script.play("1 more than the closed stamp: the same", three, "put 1 1 7 = DONE; pass 15 = 20; commit 1 plain = DONE; told 1 2 = 51; told 1 1 = 51");
        Script.play("1 more than the closed stamp: less", three, "put 2 1 7 = DONE; pass 15 = 20; commit 2 plain = DONE; told 2 2 = 52; told 2 1 = 52");
        Script.play("1 more than the closed stamp, staged, too", three, "put 0 1 7 = DONE; pass 15 = 20; commit 0 staged = DONE; told 0 2 = 51; resolved = 50; told 0 1 = 51");
        Script.play("if it writes: it doesn't", three, "get 0 1 = GONE; pass 15 = 20; commit 0 plain = DONE; told 0 2 = 50; key 1 2 = 50; order 0 = 0");
        Script.play("if it writes: it does no more behind a RESTART", three, "get 0 1 = GONE; put 0 2 7 = DONE; put 1 1 7 = DONE; commit 1 plain = DONE; pass 15 = 20; commit 0 plain = RESTART; told 0 2 = 51",
            "pass 10 = 30; closed = 150; commit 0 plain = DONE; told 0 2 = 51");
        Script.play("the write stamp is as the read stamp: nothing is refreshed", "begin 1 0 = 0; get 0 3 = GONE; put 0 4 7 = DONE; begin 2 0 = 1; put 1 3 8 = DONE; told 1 2 = 2; commit 0 plain = DONE; key 3 2 = 1; key 3 1 = 1; told 0 1 = 1");
        Script.play("the write stamp is above the read stamp by 1: reads are refreshed", "begin 1 0 = 0; begin 2 0 = 1; get 0 3 = GONE; get 1 4 = GONE; put 0 4 7 = DONE; told 0 2 = 2; commit 0 plain = DONE; key 3 2 = 2; key 3 3 = 0; told 0 1 = 2");
        Script.play("plainly, staged, and staged where it writes nothing",
            "begin 0 0 = 0; begin 0 0 = 1; begin 0 0 = 2; begin 0 0 = 3; put 0 1 7 = DONE; put 1 2 7 = DONE; commit 0 plain = DONE; commit 1 staged = DONE; commit 2 staged = DONE; get 3 3 = GONE; commit 3 staged = DONE",
            "told 0 0 = COMMITTED; told 1 0 = STAGED; told 2 0 = COMMITTED; told 3 0 = COMMITTED");
        Script.play("some of its intents are not there any more: the only one", "begin 1 0 = 0; put 0 0 7 = DONE; down 0 = 1; up 0; commit 0 plain = ENDED; told 0 0 = ABORTED; told 0 1 = 1");
        Script.play("some of its intents are not there any more: one of 32, the first or the last",
            "split 1 = 2; split 31 = 3; move 0 1 = 0; move 2 2 = 0; begin 3 0 = 0; " + puts(0) + "; down 1 = 1; up 1; commit 0 staged = ENDED; told 0 0 = ABORTED; begin 3 0 = 1; begin 3 1 = 2; put 2 31 1 = DONE; down 2 = 1; up 2; commit 2 plain = ENDED");
        Script.play("none is missing of 32", "begin 3 0 = 0; " + puts(0) + "; commit 0 staged = DONE; recover 0 = COMMITTED; key 0 0 = 1; key 31 0 = 1; told 0 5 = 32");
        Script.play("all are missing, but were written anew", "begin 3 0 = 0; " + puts(0) + "; down 0 = 32; up 0; " + puts(0) + "; told 0 5 = 32; commit 0 plain = DONE; key 31 0 = 1");
    }

    private static String puts(int transaction) {
        StringBuilder text = new StringBuilder();
        for (int key = 0; key < 32; key++) text.append(key == 0 ? "" : "; ").append("put ").append(transaction).append(' ').append(key).append(" 7 = DONE");
        return text.toString();
    }

    private static void commitsOnNodesThatAreDown() {
        // The first key is on the node 1, the last one on the node 2, those between on the node 0; its own node is 3.
        String ranges = "split 1 = 2; split 31 = 3; move 0 1 = 0; move 2 2 = 0; begin 3 0 = 0";
        Script.play("DOWN: its own node, though it did nothing", ranges, "down 3 = 0; commit 0 plain = DOWN; commit 0 staged = DOWN; told 0 0 = PENDING; up 3; commit 0 plain = DONE");
        Script.play("DOWN: the node of its write, the first key", ranges, "put 0 0 7 = DONE; put 0 9 7 = DONE; sync 1 = 1; down 1 = 0; commit 0 plain = DOWN; told 0 0 = PENDING; up 1; commit 0 plain = DONE");
        Script.play("DOWN: the node of its write, the last key", ranges, "put 0 31 7 = DONE; put 0 9 7 = DONE; sync 2 = 1; down 2 = 0; commit 0 staged = DOWN; told 0 0 = PENDING; up 2; commit 0 staged = DONE; told 0 0 = STAGED");
        Script.play("DOWN: the node of its write, though that is lost; the write stamp stays", ranges, "put 0 0 7 = DONE; told 0 2 = 2; pass 20 = 20; down 1 = 1; commit 0 plain = DOWN; told 0 2 = 2; told 0 1 = 1; up 1; commit 0 plain = ENDED; told 0 2 = 51");
        Script.play("DOWN goes ahead of a RESTART", ranges, "get 0 9 = GONE; put 0 0 7 = DONE; begin 3 0 = 1; put 1 9 7 = DONE; commit 1 plain = DONE; down 1 = 1; commit 0 plain = DOWN; told 0 5 = 1; told 0 4 = 1; up 1; commit 0 plain = RESTART");
        Script.play("not DOWN: the node of a key that it just read", ranges, "get 0 0 = GONE; down 1 = 0; commit 0 plain = DONE");
        Script.play("not DOWN: the node of a key that it just read, where that is to be refreshed", ranges, "get 0 0 = GONE; put 0 9 7 = DONE; pass 20 = 20; down 1 = 0; commit 0 plain = RESTART; told 0 1 = 51; up 1");
        Script.play("not DOWN: another node", ranges, "put 0 9 7 = DONE; down 1 = 0; down 2 = 0; commit 0 plain = DONE");
        Script.play("not DOWN behind a RESTART: it writes nothing", ranges, "get 0 9 = GONE; put 0 0 7 = DONE; begin 3 0 = 1; put 1 9 7 = DONE; commit 1 plain = DONE; commit 0 plain = RESTART; down 1 = 0; commit 0 plain = DONE");
    }

    // ---- The order, the feed

    private static void resolvedAndFeed() {
        // The transactions 0 to 2 have the stamps 50 to 52, and write the keys 1 to 3; the closed stamp is 50 later.
        String three = "pass 5 = 5; begin 0 0 = 0; begin 0 0 = 1; begin 0 0 = 2; put 0 1 7 = DONE; put 1 2 7 = DONE; put 2 3 7 = DONE";
        Script.play("resolved: 1 less than the write stamp is less than the closed stamp", three, "commit 0 staged = DONE; pass 15 = 20; closed = 50; resolved = 49");
        Script.play("resolved: 1 less than the write stamp is the closed stamp", three, "commit 1 staged = DONE; pass 15 = 20; closed = 50; resolved = 50");
        Script.play("resolved: 1 less than the write stamp is greater than the closed stamp", three, "commit 2 staged = DONE; pass 15 = 20; closed = 50; resolved = 50; pass 1 = 21; resolved = 51; pass 1 = 22; resolved = 51");
        Script.play("resolved: the least of several", three, "commit 2 staged = DONE; commit 1 staged = DONE; pass 16 = 21; closed = 60; resolved = 50; recover 1 = COMMITTED; resolved = 51; recover 2 = COMMITTED; resolved = 60");
        Script.play("resolved: PENDING, COMMITTED and ABORTED don't count", three, "commit 0 plain = DONE; abort 1 = DONE; pass 16 = 21; closed = 60; resolved = 60; told 2 0 = PENDING");
        Script.play("the feed: a change at the closed stamp, and one 1 above it", three, "commit 0 plain = DONE; commit 1 plain = DONE; pass 14 = 19; closed = 40; feed 0 = NONE; pass 1 = 20; closed = 50; feed 0 = 1601; feed 1 = NONE; pass 1 = 21; feed 1 = 1634; feed 2 = NONE");
        Script.play("the feed: a change at the stamp that is resolved, below one that is STAGED, and one above it", three,
            "commit 0 plain = DONE; commit 1 staged = DONE; commit 2 plain = DONE; pass 20 = 25; resolved = 50; feed 0 = 1601; feed 1 = NONE; recover 1 = COMMITTED; feed 1 = 1634; feed 2 = 1667; feed 3 = NONE");
        Script.play("the feed: of the same stamp the first key and the last one, in any order of commits",
            "begin 0 0 = 0; begin 1 0 = 1; begin 2 0 = 2; begin 3 0 = 3; put 0 31 7 = DONE; put 1 5 7 = DONE; put 2 0 7 = DONE; put 3 30 GONE = DONE; commit 0 plain = DONE; commit 1 plain = DONE; commit 3 plain = DONE; commit 2 plain = DONE",
            "pass 16 = 16; feed 0 = 32; feed 1 = 37; feed 2 = 62; feed 3 = 63; feed 4 = NONE");
        Script.play("the feed: a stamp less by 1 goes ahead of any key",
            "begin 0 0 = 0; begin 0 0 = 1; told 1 2 = 2; put 1 0 7 = DONE; commit 1 plain = DONE; put 0 31 7 = DONE; commit 0 plain = DONE; pass 16 = 16; feed 0 = 63; feed 1 = 64; feed 2 = NONE");
        Script.play("the feed: a change ahead of others, each with its own value yet",
            "begin 0 0 = 0; begin 0 0 = 1; begin 0 0 = 2; put 2 5 72 = DONE; commit 2 plain = DONE; put 1 4 71 = DONE; commit 1 plain = DONE; put 0 6 70 = DONE; commit 0 plain = DONE; pass 16 = 16",
            "feed 0 = 38; feed 1 = 68; feed 2 = 101; asOf 6 1 = 70; asOf 4 2 = 71; asOf 5 3 = 72; asOf 5 2 = GONE; asOf 4 1 = GONE");
        Script.play("the feed: each version of a key, also that it is gone", "begin 0 0 = 0; put 0 5 7 = DONE; commit 0 plain = DONE; begin 0 0 = 1; put 1 5 GONE = DONE; commit 1 plain = DONE; pass 16 = 16; feed 0 = 37; feed 1 = 101; feed 2 = NONE; key 5 0 = 2");
    }

    private static void orders() {
        Script.play("the order: a write stamp less by 1, committed later", "begin 0 0 = 0; begin 0 0 = 1; commit 1 plain = DONE; order 0 = 1; commit 0 plain = DONE; order 0 = 0; order 1 = 1; order 2 = NONE");
        Script.play("the order: the same write stamp, in the order in which they were committed", "begin 0 0 = 0; begin 1 0 = 1; begin 2 0 = 2; commit 2 plain = DONE; commit 0 plain = DONE; commit 1 plain = DONE; order 0 = 2; order 1 = 0; order 2 = 1");
        Script.play("the order: the same write stamp, one that was STAGED before counts from when it is COMMITTED",
            "begin 0 0 = 0; begin 1 0 = 1; put 0 5 7 = DONE; put 1 6 7 = DONE; commit 0 staged = DONE; order 0 = NONE; commit 1 plain = DONE; recover 0 = COMMITTED; told 0 2 = 1; told 1 2 = 1; order 0 = 1; order 1 = 0");
        Script.play("the order: by the write stamp, not that with which it began", "begin 0 0 = 0; begin 0 0 = 1; begin 0 0 = 2; get 2 5 = GONE; put 0 5 7 = DONE; told 0 2 = 4; commit 0 plain = DONE; commit 1 plain = DONE; commit 2 plain = DONE; order 0 = 1; order 1 = 2; order 2 = 0");
        Script.play("the order: PENDING, STAGED and ABORTED ones are not of it", "begin 0 0 = 0; begin 0 0 = 1; begin 0 0 = 2; put 1 5 7 = DONE; commit 1 staged = DONE; abort 2 = DONE; order 0 = NONE");
    }

    private static void stampsAsOf() {
        String two = "pass 5 = 5; begin 0 0 = 0; put 0 5 7 = DONE; commit 0 plain = DONE; begin 0 0 = 1; told 1 2 = 52; put 1 5 8 = DONE; commit 1 plain = DONE; pass 20 = 25; closed = 100";
        Script.play("as of 1 less than the first version's stamp, at it, 1 more", two, "told 0 2 = 50; asOf 5 49 = GONE; asOf 5 50 = 7; asOf 5 51 = 7");
        Script.play("as of the next version's stamp, 1 less, 1 more, the closed stamp", two, "asOf 5 51 = 7; asOf 5 52 = 8; asOf 5 53 = 8; asOf 5 100 = 8; asOf 5 0 = GONE");
        String staged = "pass 5 = 5; begin 0 0 = 0; put 0 5 7 = DONE; told 0 2 = 50; commit 0 staged = DONE; pass 15 = 20; closed = 50";
        Script.play("as of a STAGED one's write stamp, 1 less, 1 more", staged, "asOf 5 49 = GONE; asOf 5 50 = WAITS; pass 1 = 21; asOf 5 51 = WAITS; asOf 5 60 = WAITS; asOf 5 0 = GONE");
        Script.play("as of it on another key, where it has no intent", staged, "asOf 4 50 = GONE; asOf 6 50 = GONE");
        Script.play("as of it where its intent was lost", staged, "down 0 = 1; asOf 5 50 = GONE; told 0 0 = STAGED");
        Script.play("as of it behind an older version", "begin 0 0 = 0; put 0 5 7 = DONE; commit 0 plain = DONE; begin 0 0 = 1; put 1 5 8 = DONE; told 1 2 = 3; commit 1 staged = DONE; pass 20 = 20; asOf 5 0 = GONE; asOf 5 1 = 7; asOf 5 2 = 7; asOf 5 3 = WAITS");
        Script.play("as of the write stamp of one that is PENDING or ABORTED", "begin 0 0 = 0; begin 0 0 = 1; put 0 5 7 = DONE; put 1 6 7 = DONE; abort 1 = DONE; pass 20 = 20; asOf 5 50 = GONE; asOf 6 50 = GONE; key 6 1 = 1");
    }
}
