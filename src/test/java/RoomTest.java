import java.lang.management.ManagementFactory;

/** The room that an object and its calls take: rows are made once, and calls make nothing. */
public final class RoomTest {
    private static int answers = 0;

    public static void main(String[] args) {
        com.sun.management.ThreadMXBean bean = (com.sun.management.ThreadMXBean) ManagementFactory.getThreadMXBean();
        long self = Thread.currentThread().getId();
        Bells x = full();
        ask(x);
        long before = bean.getThreadAllocatedBytes(self);
        DyerBells y = new DyerBells();
        long made = bean.getThreadAllocatedBytes(self) - before;
        answers += y.count(0);
        Check.due("an object takes less than 100 000 bytes", true, made < 100000);
        before = bean.getThreadAllocatedBytes(self);
        for (int i = 0; i < 8; i++) {
            ask(x);
        }
        long asked = bean.getThreadAllocatedBytes(self) - before;
        Check.due("calls make nothing: " + asked, true, asked < 4096);
        Check.due("there were answers", true, answers != 0);
        Check.close();
    }

    private static Bells full() {
        Bells x = new Bells();
        StringBuilder river = new StringBuilder();
        for (char i = 'a'; i < 'k'; i++) {
            river.append("reach r").append(i).append(" 300 40;");
        }
        for (char i = 'a'; i < 'e'; i++) {
            river.append("colour c").append(i).append(';');
        }
        for (char i = 'a'; i < 'g'; i++) {
            river.append("guild g").append(i).append(" r").append(i).append(" 9 ca 900 cb 30 cc 7 cd ").append((i - 'a') * 100 + 5).append(';');
            river.append("user u").append(i).append(" r").append((char) (i + 4)).append(" 3 21 ca 40 cd 9;");
        }
        river.append("flow 2 500;flow 4 20;flood 400;pebble ca 9 9;");
        Check.due("river", 30, Check.river(x, river.toString()));
        for (int k = 0; k < 36; k++) {
            x.ring(k * 4, k % 6, 1 + k % 7);
        }
        Check.due("sentence", 4, Check.sentence(x, "not (works ga or shade ca rb>20)"));
        for (int k = 0; k < 20; k++) {
            x.see(k, k % 4, x.passed(k, k % 4));
        }
        return x;
    }

    private static void ask(Bells x) {
        x.image(0);
        x.feed(0x63000000, 0, 0, 0, 0);
        x.end(1);
        answers += x.river() + x.fault();
        x.feed(0x62656c6c, 0x20302030, 0x20676120, 0x353b0000, 0);
        x.end(14);
        answers += x.order() + x.harm();
        x.feed(0x6461793d, 0x31000000, 0, 0, 0);
        x.end(5);
        answers += x.sentence() + x.said(-1) + x.said(7);
        x.restore(0);
        answers += x.at(100, 5, 2, 2) + x.passed(90, 1) + x.sum(1, 0) + x.sum(1, 1) + x.sum(1, 2) + x.fine(40, 4);
        answers += x.harmed(3, 5) + x.blame(2, 3) + x.duty(4) + x.pulse(0, 0, 99, 1) + x.late(7) + x.dam(3, 70) + x.rain(20, 4);
        x.feed(0x00010203, 0, 0, 0, 0);
        x.end(4);
        answers += x.days(5) + x.dayOf(2) + x.night() + x.led(0) + x.exchange() + x.exchanges() + x.ring(3, 3, 3) + x.undo();
        x.restore(0);
    }
}
