import java.lang.reflect.Field;

/**
 * Promise 25, where there is something to count. No run of calls is known to commit a read that the order doesn't
 * explain, so what a transaction remembers to have read is set from outside here.
 */
public final class JudgedTest {
    private static int wrong;

    private JudgedTest() {
    }

    public static void main(String[] arguments) throws ReflectiveOperationException {
        nothingIsThere();
        eachKey();
        readsOfSeveral();
        justWhatWasRead();
        ownWrites();
        theOrder();
        justWhatWasCommitted();
        System.out.println("JudgedTest: " + wrong + " wrong");
        System.exit(wrong == 0 ? 0 : 1);
    }

    private static void due(String what, int got, int want) {
        if (got != want) {
            wrong++;
            System.out.println(what + ": answered " + got + ", due is " + want);
        }
    }

    private static Object inside(Object object, String name) throws ReflectiveOperationException {
        Field field = object.getClass().getDeclaredField(name);
        field.setAccessible(true);
        return field.get(object);
    }

    /** Lets a transaction have read another value at a key. */
    private static void falsify(Twinphase x, int transaction, int key, int value) throws ReflectiveOperationException {
        Object[] all = (Object[]) inside(x, "transactions");
        ((int[]) inside(all[transaction], "readValues"))[key] = value;
    }

    private static void write(Twinphase x, int key, int value) {
        int writer = x.begin(0, 1);
        due("put", x.put(writer, key, value), Twinphase.DONE);
        due("commit", x.commit(writer, false), Twinphase.DONE);
    }

    private static void nothingIsThere() {
        Twinphase x = new Twinphase();
        due("nothing is there", x.judged(), 0);
        x.begin(0, 1);
        x.commit(0, false);
        due("one that read nothing", x.judged(), 0);
    }

    private static void eachKey() throws ReflectiveOperationException {
        for (int key = 0; key < 32; key++) {
            Twinphase x = new Twinphase();
            write(x, key, 5);
            int reader = x.begin(0, 1);
            due("get", x.get(reader, key), 5);
            x.commit(reader, false);
            due("as it was", x.judged(), 0);
            falsify(x, reader, key, 6);
            due("a read that is not explained, of the key " + key, x.judged(), 1);
            falsify(x, reader, key, Twinphase.GONE);
            due("a read of nothing where there is something", x.judged(), 1);
            falsify(x, reader, key, 5);
            due("as it was again", x.judged(), 0);
        }
    }

    private static void readsOfSeveral() throws ReflectiveOperationException {
        Twinphase x = new Twinphase();
        for (int t = 0; t < 40; t++) {
            x.begin(0, 1);
            for (int key = 0; key < 32; key += 4) x.get(t, key);
            x.commit(t, false);
        }
        int count = 0;
        for (int t = 0; t < 40; t++) {
            for (int key = 0; key < 32; key += 4) {
                falsify(x, t, key, 7);
                count++;
            }
            due("reads of " + t, x.judged(), count);
        }
    }

    private static void justWhatWasRead() throws ReflectiveOperationException {
        Twinphase x = new Twinphase();
        write(x, 3, 5);
        int reader = x.begin(0, 1);
        x.get(reader, 4);
        x.put(reader, 3, 6);
        x.get(reader, 3);
        x.commit(reader, false);
        falsify(x, reader, 3, 77);
        falsify(x, reader, 5, 77);
        due("keys that it has not read, its own write among them", x.judged(), 0);
        falsify(x, reader, 4, 77);
        due("the key that it has read", x.judged(), 1);
    }

    private static void ownWrites() throws ReflectiveOperationException {
        Twinphase x = new Twinphase();
        write(x, 3, 5);
        int changer = x.begin(0, 1);
        x.get(changer, 3);
        x.put(changer, 3, 6);
        x.commit(changer, false);
        int reader = x.begin(0, 1);
        x.get(reader, 3);
        x.commit(reader, false);
        due("read ahead of its own write", x.judged(), 0);
        falsify(x, changer, 3, 6);
        due("its own write is not there yet when it reads", x.judged(), 1);
        falsify(x, reader, 3, 5);
        due("it is there for the next one", x.judged(), 2);
    }

    private static void theOrder() throws ReflectiveOperationException {
        Twinphase x = new Twinphase();
        x.begin(0, 1);
        x.begin(0, 1);
        x.begin(0, 1);
        x.get(1, 3);
        x.put(2, 3, 5);
        x.commit(2, false);
        x.commit(1, false);
        x.put(0, 3, 7);
        x.put(0, 9, 7);
        due("the stamps", x.told(0, 2), 4);
        x.commit(0, false);
        due("the one that committed first is the second by its stamp", x.order(1), 2);
        due("by write stamps", x.judged(), 0);
        falsify(x, 1, 3, 5);
        due("what was committed ahead of it in time, behind it in the order", x.judged(), 1);
    }

    private static void justWhatWasCommitted() throws ReflectiveOperationException {
        Twinphase x = new Twinphase();
        for (int t = 0; t < 3; t++) {
            x.begin(0, 1);
            x.get(t, 3);
            x.put(t, 4 + t, 1);
            falsify(x, t, 3, 7);
        }
        x.abort(0);
        due("staged", x.commit(1, true), Twinphase.DONE);
        due("PENDING, STAGED and ABORTED", x.judged(), 0);
        due("recover", x.recover(1), Twinphase.COMMITTED);
        due("COMMITTED", x.judged(), 1);
        due("commit", x.commit(2, false), Twinphase.DONE);
        due("both", x.judged(), 2);
    }
}
