/**
 * An object of DyerBells that counts its calls: the document promises nothing behind the 512th, so a test that
 * asks one object more often is itself wrong.
 */
final class Bells {
    static final int MOST_CALLS = 512;
    private final DyerBells inside = new DyerBells();
    private int calls;

    private DyerBells called() {
        calls++;
        if (calls == MOST_CALLS + 1) {
            Check.due("calls of one object, by the test itself", MOST_CALLS, calls);
        }
        return inside;
    }

    int calls() {
        return calls;
    }

    int feed(int a, int b, int c, int d, int e) {
        return called().feed(a, b, c, d, e);
    }

    boolean end(int n) {
        return called().end(n);
    }

    int river() {
        return called().river();
    }

    int fault() {
        return called().fault();
    }

    int reach(int r, int what) {
        return called().reach(r, what);
    }

    int guild(int g, int what) {
        return called().guild(g, what);
    }

    int user(int u, int what) {
        return called().user(u, what);
    }

    int flow(int day) {
        return called().flow(day);
    }

    int order() {
        return called().order();
    }

    int ring(int hour, int g, int hours) {
        return called().ring(hour, g, hours);
    }

    int undo() {
        return called().undo();
    }

    int bell(int k, int what) {
        return called().bell(k, what);
    }

    int at(int hour, int r, int c, int what) {
        return called().at(hour, r, c, what);
    }

    int passed(int hour, int c) {
        return called().passed(hour, c);
    }

    int sum(int c, int what) {
        return called().sum(c, what);
    }

    int fine(int hour, int r) {
        return called().fine(hour, r);
    }

    int harmed(int u, int k) {
        return called().harmed(u, k);
    }

    int harm() {
        return called().harm();
    }

    int blame(int g, int u) {
        return called().blame(g, u);
    }

    int duty(int g) {
        return called().duty(g);
    }

    int pulse(int r, int c, int n, int what) {
        return called().pulse(r, c, n, what);
    }

    int days(int hour) {
        return called().days(hour);
    }

    int dayOf(int i) {
        return called().dayOf(i);
    }

    int exchange() {
        return called().exchange();
    }

    int exchanges() {
        return called().exchanges();
    }

    int late(int k) {
        return called().late(k);
    }

    int see(int hour, int c, int much) {
        return called().see(hour, c, much);
    }

    int night() {
        return called().night();
    }

    int led(int what) {
        return called().led(what);
    }

    int dam(int r, int v) {
        return called().dam(r, v);
    }

    int rain(int weeks, int seed) {
        return called().rain(weeks, seed);
    }

    int sentence() {
        return called().sentence();
    }

    int said(int k) {
        return called().said(k);
    }

    boolean image(int k) {
        return called().image(k);
    }

    boolean restore(int k) {
        return called().restore(k);
    }

    int count(int what) {
        return called().count(what);
    }
}
