/** The class under test, called by the names of its calls. */
final class Real implements Subject {
    private final Twinphase x = new Twinphase();

    @Override
    public int call(String name, int... a) {
        switch (name) {
            case "pass": return x.pass(a[0]);
            case "skew": return x.skew(a[0], a[1]);
            case "clock": return x.clock(a[0]);
            case "closed": return x.closed();
            case "down": return x.down(a[0]);
            case "up": return x.up(a[0]);
            case "sync": return x.sync(a[0]);
            case "split": return x.split(a[0]);
            case "merge": return x.merge(a[0]);
            case "move": return x.move(a[0], a[1]);
            case "begin": return x.begin(a[0], a[1]);
            case "get": return x.get(a[0], a[1]);
            case "put": return x.put(a[0], a[1], a[2]);
            case "commit": return x.commit(a[0], a[1] != 0);
            case "abort": return x.abort(a[0]);
            case "recover": return x.recover(a[0]);
            case "beat": return x.beat(a[0]);
            case "told": return x.told(a[0], a[1]);
            case "key": return x.key(a[0], a[1]);
            case "asOf": return x.asOf(a[0], a[1]);
            case "resolved": return x.resolved();
            case "feed": return x.feed(a[0]);
            case "order": return x.order(a[0]);
            case "judged": return x.judged();
            default: throw new AssertionError("no call " + name);
        }
    }
}
